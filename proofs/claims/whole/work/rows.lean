section
-- ===== PART A: goes FIRST, ahead of the names: the tables' words, and 'selects' of the private methods out of them =====
/-- a private method of a class that the tables say can be made, by its rows of tables_1 -/
def lw_okq (q : MethodName × Nat) : Prop := (q.1.cls ≠ "java/lang/invoke/MethodHandle" ∧ q.1.cls ≠ "java/lang/invoke/VarHandle") ∧ Cond.instantiable q.1.cls q.2 ∈ tables_1 ∧ Cond.privateMethod q.1 ∈ tables_1 ∧ Cond.instanceMethod q.1 ∈ tables_1
theorem lw_p0 : lw_okq (⟨"java/lang/Throwable", "fillInStackTrace", "(I)Ljava/lang/Throwable;"⟩, 6) := ⟨⟨by decide +kernel, by decide +kernel⟩, List.mem_of_getElem? (i := 227) (by decide +kernel), List.mem_of_getElem? (i := 225) (by decide +kernel), List.mem_of_getElem? (i := 226) (by decide +kernel)⟩
theorem lw_p1 : lw_okq (⟨"SquaringClock", "needDiscriminant", "()V"⟩, 7) := ⟨⟨by decide +kernel, by decide +kernel⟩, List.mem_of_getElem? (i := 16) (by decide +kernel), List.mem_of_getElem? (i := 313) (by decide +kernel), List.mem_of_getElem? (i := 314) (by decide +kernel)⟩
theorem lw_p2 : lw_okq (⟨"SquaringClock", "nextExponent", "()I"⟩, 7) := ⟨⟨by decide +kernel, by decide +kernel⟩, List.mem_of_getElem? (i := 16) (by decide +kernel), List.mem_of_getElem? (i := 323) (by decide +kernel), List.mem_of_getElem? (i := 324) (by decide +kernel)⟩
theorem lw_p3 : lw_okq (⟨"SquaringClock", "stepOfProof", "(LSquaringClock$Round;)V"⟩, 7) := ⟨⟨by decide +kernel, by decide +kernel⟩, List.mem_of_getElem? (i := 16) (by decide +kernel), List.mem_of_getElem? (i := 385) (by decide +kernel), List.mem_of_getElem? (i := 386) (by decide +kernel)⟩
theorem lw_p4 : lw_okq (⟨"SquaringClock", "bookedOrRunning", "(I)LSquaringClock$Round;"⟩, 7) := ⟨⟨by decide +kernel, by decide +kernel⟩, List.mem_of_getElem? (i := 16) (by decide +kernel), List.mem_of_getElem? (i := 405) (by decide +kernel), List.mem_of_getElem? (i := 406) (by decide +kernel)⟩
theorem lw_p5 : lw_okq (⟨"SquaringClock", "bookedRound", "(I)LSquaringClock$Round;"⟩, 7) := ⟨⟨by decide +kernel, by decide +kernel⟩, List.mem_of_getElem? (i := 16) (by decide +kernel), List.mem_of_getElem? (i := 409) (by decide +kernel), List.mem_of_getElem? (i := 410) (by decide +kernel)⟩
theorem lw_p6 : lw_okq (⟨"SquaringClock", "needFilled", "(I)V"⟩, 7) := ⟨⟨by decide +kernel, by decide +kernel⟩, List.mem_of_getElem? (i := 16) (by decide +kernel), List.mem_of_getElem? (i := 500) (by decide +kernel), List.mem_of_getElem? (i := 501) (by decide +kernel)⟩
theorem lw_p7 : lw_okq (⟨"SquaringClockModel", "set", "(IJJJ)V"⟩, 12) := ⟨⟨by decide +kernel, by decide +kernel⟩, List.mem_of_getElem? (i := 578) (by decide +kernel), List.mem_of_getElem? (i := 633) (by decide +kernel), List.mem_of_getElem? (i := 634) (by decide +kernel)⟩
theorem lw_p8 : lw_okq (⟨"SquaringClockModel", "settle", "(I)V"⟩, 12) := ⟨⟨by decide +kernel, by decide +kernel⟩, List.mem_of_getElem? (i := 578) (by decide +kernel), List.mem_of_getElem? (i := 639) (by decide +kernel), List.mem_of_getElem? (i := 640) (by decide +kernel)⟩
theorem lw_p9 : lw_okq (⟨"SquaringClockModel", "isReduced", "(I)Z"⟩, 12) := ⟨⟨by decide +kernel, by decide +kernel⟩, List.mem_of_getElem? (i := 578) (by decide +kernel), List.mem_of_getElem? (i := 643) (by decide +kernel), List.mem_of_getElem? (i := 644) (by decide +kernel)⟩
theorem lw_p10 : lw_okq (⟨"SquaringClockModel", "isAny", "()Z"⟩, 12) := ⟨⟨by decide +kernel, by decide +kernel⟩, List.mem_of_getElem? (i := 578) (by decide +kernel), List.mem_of_getElem? (i := 654) (by decide +kernel), List.mem_of_getElem? (i := 655) (by decide +kernel)⟩
theorem lw_p11 : lw_okq (⟨"SquaringClockModel", "mixForm", "(II)I"⟩, 12) := ⟨⟨by decide +kernel, by decide +kernel⟩, List.mem_of_getElem? (i := 578) (by decide +kernel), List.mem_of_getElem? (i := 662) (by decide +kernel), List.mem_of_getElem? (i := 663) (by decide +kernel)⟩
theorem lw_p12 : lw_okq (⟨"SquaringClockModel", "raiseTo", "(III)V"⟩, 12) := ⟨⟨by decide +kernel, by decide +kernel⟩, List.mem_of_getElem? (i := 578) (by decide +kernel), List.mem_of_getElem? (i := 667) (by decide +kernel), List.mem_of_getElem? (i := 668) (by decide +kernel)⟩
theorem lw_p13 : lw_okq (⟨"SquaringClockModel", "copy", "(II)V"⟩, 12) := ⟨⟨by decide +kernel, by decide +kernel⟩, List.mem_of_getElem? (i := 578) (by decide +kernel), List.mem_of_getElem? (i := 671) (by decide +kernel), List.mem_of_getElem? (i := 672) (by decide +kernel)⟩
theorem lw_p14 : lw_okq (⟨"SquaringClockModel", "times", "(III)V"⟩, 12) := ⟨⟨by decide +kernel, by decide +kernel⟩, List.mem_of_getElem? (i := 578) (by decide +kernel), List.mem_of_getElem? (i := 675) (by decide +kernel), List.mem_of_getElem? (i := 676) (by decide +kernel)⟩
theorem lw_p15 : lw_okq (⟨"SquaringClockModel", "unite", "(I)V"⟩, 12) := ⟨⟨by decide +kernel, by decide +kernel⟩, List.mem_of_getElem? (i := 578) (by decide +kernel), List.mem_of_getElem? (i := 679) (by decide +kernel), List.mem_of_getElem? (i := 680) (by decide +kernel)⟩
def lw_privs_1 : List (MethodName × Nat) := [(⟨"java/lang/Throwable", "fillInStackTrace", "(I)Ljava/lang/Throwable;"⟩, 6), (⟨"SquaringClock", "needDiscriminant", "()V"⟩, 7), (⟨"SquaringClock", "nextExponent", "()I"⟩, 7), (⟨"SquaringClock", "stepOfProof", "(LSquaringClock$Round;)V"⟩, 7), (⟨"SquaringClock", "bookedOrRunning", "(I)LSquaringClock$Round;"⟩, 7), (⟨"SquaringClock", "bookedRound", "(I)LSquaringClock$Round;"⟩, 7), (⟨"SquaringClock", "needFilled", "(I)V"⟩, 7), (⟨"SquaringClockModel", "set", "(IJJJ)V"⟩, 12), (⟨"SquaringClockModel", "settle", "(I)V"⟩, 12), (⟨"SquaringClockModel", "isReduced", "(I)Z"⟩, 12), (⟨"SquaringClockModel", "isAny", "()Z"⟩, 12), (⟨"SquaringClockModel", "mixForm", "(II)I"⟩, 12), (⟨"SquaringClockModel", "raiseTo", "(III)V"⟩, 12), (⟨"SquaringClockModel", "copy", "(II)V"⟩, 12), (⟨"SquaringClockModel", "times", "(III)V"⟩, 12), (⟨"SquaringClockModel", "unite", "(I)V"⟩, 12)]
theorem lw_r1 : ∀ q ∈ lw_privs_1, lw_okq q := List.forall_mem_cons.mpr ⟨lw_p0, List.forall_mem_cons.mpr ⟨lw_p1, List.forall_mem_cons.mpr ⟨lw_p2, List.forall_mem_cons.mpr ⟨lw_p3, List.forall_mem_cons.mpr ⟨lw_p4, List.forall_mem_cons.mpr ⟨lw_p5, List.forall_mem_cons.mpr ⟨lw_p6, List.forall_mem_cons.mpr ⟨lw_p7, List.forall_mem_cons.mpr ⟨lw_p8, List.forall_mem_cons.mpr ⟨lw_p9, List.forall_mem_cons.mpr ⟨lw_p10, List.forall_mem_cons.mpr ⟨lw_p11, List.forall_mem_cons.mpr ⟨lw_p12, List.forall_mem_cons.mpr ⟨lw_p13, List.forall_mem_cons.mpr ⟨lw_p14, List.forall_mem_cons.mpr ⟨lw_p15, fun _ h => absurd h List.not_mem_nil⟩⟩⟩⟩⟩⟩⟩⟩⟩⟩⟩⟩⟩⟩⟩⟩
theorem lw_p16 : lw_okq (⟨"SquaringClockModel", "primeOf", "(III)I"⟩, 12) := ⟨⟨by decide +kernel, by decide +kernel⟩, List.mem_of_getElem? (i := 578) (by decide +kernel), List.mem_of_getElem? (i := 702) (by decide +kernel), List.mem_of_getElem? (i := 703) (by decide +kernel)⟩
theorem lw_p17 : lw_okq (⟨"SquaringClockModel", "place", "(I)I"⟩, 12) := ⟨⟨by decide +kernel, by decide +kernel⟩, List.mem_of_getElem? (i := 578) (by decide +kernel), List.mem_of_getElem? (i := 729) (by decide +kernel), List.mem_of_getElem? (i := 730) (by decide +kernel)⟩
theorem lw_p18 : lw_okq (⟨"SquaringClockModel", "partOf", "(II)J"⟩, 12) := ⟨⟨by decide +kernel, by decide +kernel⟩, List.mem_of_getElem? (i := 578) (by decide +kernel), List.mem_of_getElem? (i := 737) (by decide +kernel), List.mem_of_getElem? (i := 738) (by decide +kernel)⟩
theorem lw_p19 : lw_okq (⟨"SquaringClockModel", "same", "(II)Z"⟩, 12) := ⟨⟨by decide +kernel, by decide +kernel⟩, List.mem_of_getElem? (i := 578) (by decide +kernel), List.mem_of_getElem? (i := 745) (by decide +kernel), List.mem_of_getElem? (i := 746) (by decide +kernel)⟩
theorem lw_p20 : lw_okq (⟨"SquaringClockModel", "holds", "(IIIII)Z"⟩, 12) := ⟨⟨by decide +kernel, by decide +kernel⟩, List.mem_of_getElem? (i := 578) (by decide +kernel), List.mem_of_getElem? (i := 749) (by decide +kernel), List.mem_of_getElem? (i := 750) (by decide +kernel)⟩
def lw_privs_2 : List (MethodName × Nat) := [(⟨"SquaringClockModel", "primeOf", "(III)I"⟩, 12), (⟨"SquaringClockModel", "place", "(I)I"⟩, 12), (⟨"SquaringClockModel", "partOf", "(II)J"⟩, 12), (⟨"SquaringClockModel", "same", "(II)Z"⟩, 12), (⟨"SquaringClockModel", "holds", "(IIIII)Z"⟩, 12)]
theorem lw_r2 : ∀ q ∈ lw_privs_2, lw_okq q := List.forall_mem_cons.mpr ⟨lw_p16, List.forall_mem_cons.mpr ⟨lw_p17, List.forall_mem_cons.mpr ⟨lw_p18, List.forall_mem_cons.mpr ⟨lw_p19, List.forall_mem_cons.mpr ⟨lw_p20, fun _ h => absurd h List.not_mem_nil⟩⟩⟩⟩⟩
def lw_privs : List (MethodName × Nat) := lw_privs_1 ++ (lw_privs_2)
def lw_tbl : List Cond := k2_sels lw_privs ++ tables_1
theorem lw_privs_ok : ∀ q ∈ lw_privs, lw_okq q := by
  show ∀ q ∈ lw_privs_1 ++ (lw_privs_2), lw_okq q
  exact List.forall_mem_append.mpr ⟨lw_r1, lw_r2⟩
end
section
/-! ===== BEGIN words of one list among another's, by their places ===== -/
theorem goodIn_r {big : List Cond} (ws : List Cond) (ps : List Nat) (hp : ws = ps.filterMap (fun i => big[i]?)) (h : ws.all goodWord = true) : GoodIn big ws := by
  intro w hw
  have h1 := List.all_eq_true.mp h w hw
  rw [hp] at hw
  obtain ⟨i, -, hi⟩ := List.mem_filterMap.mp hw
  have hm : w ∈ big := by first | exact List.mem_of_getElem? hi | exact List.getElem?_mem hi
  exact ⟨hm, good_of_word h1⟩
theorem goodIn_app {big a b : List Cond} (ha : GoodIn big a) (hb : GoodIn big b) : GoodIn big (a ++ b) := fun w h => (List.mem_append.mp h).elim (ha w) (hb w)
theorem goodIn_ca {big a b : List Cond} {c : Cond} (ha : GoodIn big (c :: a)) (hb : GoodIn big b) : GoodIn big (c :: (a ++ b)) := fun w h => (List.mem_cons.mp h).elim (fun e => ha w (List.mem_cons.mpr (Or.inl e))) (fun h => (List.mem_append.mp h).elim (fun h => ha w (List.mem_cons.mpr (Or.inr h))) (hb w))
theorem goodIn_sub {big ws : List Cond} (hm : ∀ w ∈ ws, w ∈ big) (h : ws.all goodWord = true) : GoodIn big ws := fun w hw => ⟨hm w hw, good_of_word (List.all_eq_true.mp h w hw)⟩
/-! ===== END ===== -/

/-! ===== BEGIN exceptions that leave a method, and their catching by the caller (launches without stack traces) ===== -/
section VXA
/-! The laws vx_back, vx_callV, vx_callS, vx_callSW, vx_throw0, vx_throwS follow proofs of the library, with one case more: JvmDerived/Free/Laws.lean (Back.of_free), Shelf42/LK1.lean (callV, callS), Shelf/KitTraced.lean (throwNew0V, throwNewS). -/

/-- where a method has thrown q: the class by its name, the cell, what was written, the world -/
def vx_T (XC : String → State → State → Prop) (st : State) (q : Addr) (t : State) (mc ms : Nat) (free : Addr → Prop) : Prop :=
  ∃ (E : String) (ce : Cell) (L : List Loc), XC E st t ∧ t.heap[q]? = some ce ∧ ce.vm = .none ∧ st.vm.findClass E = some ce.cls ∧ st.WarmedH t.vm ∧ st.sameButNew ({ t with vm := st.vm } : State) L mc ms ∧ ∀ z ∈ L, free z.base
def vx_Q (Qc : Array Value → State → Outcome → State → Prop) (XC : String → State → State → Prop) (mc ms : Nat) (free : Addr → Prop) : Array Value → State → Outcome → State → Prop := fun a st o t =>
  (Qc a st o t ∧ ∃ L, FrameEnd st o t L mc ms ∧ ∀ q ∈ L, free q.base) ∨ ∃ q, o = .threw q ∧ vx_T XC st q t mc ms free
/-- a callee that returns or throws -/
def vx_Met (l : Launch) (y : MethodName) (ws : List Cond) (rm : Room) (Pc : Array Value → State → Prop) (Qc : Array Value → State → Outcome → State → Prop) (XC : String → State → State → Prop) (mc ms : Nat) (free : Addr → Prop) : Prop :=
  MetFree l y (headSpec ws rm) Pc (fun _ _ _ _ _ => True) (vx_Q Qc XC mc ms free)
def vx_Post (XC : String → State → State → Prop) (mc ms : Nat) (free : Addr → Prop) : Pt → Array Value → Addr → Pt → Prop := fun A a q B =>
  ∃ (g : JFrame) (mk : MethodId) (t : State) (L : List Loc) (E : String) (ce : Cell), B.U.heap = t.heap ∧ B.U.vm = t.vm ∧ XC E (A.U.calling g mk a) t ∧ t.heap[q]? = some ce ∧ ce.vm = .none ∧ A.U.vm.findClass E = some ce.cls ∧ B.locs = A.locs ++ L ∧ (∀ z ∈ L, free z.base) ∧ B.cells = A.cells + mc ∧ B.slots = A.slots + ms
def vx_Back (l : Launch) (R : Room) (p : Program) (e : Env) (below : List Frame) (s : State) (sargs : Array Value) (y : MethodName) (len W9 : Nat)
    (Pre : Pt → Array Value → Prop) (Post : Pt → Array Value → Option Value → Pt → Prop) (PostX : Pt → Array Value → Addr → Pt → Prop) : Prop :=
  ∀ (m : MethodId) (meth : Method) (c : Code) (A : Pt) (g : JFrame) (ig : Instr) (mk : MethodId) (a : Array Value),
    Stand p l e R s m sargs below meth c A.U A.locs A.cells A.slots → g.method = m → g.locals.size = c.maxLocals → decode c.code g.pc = .ok (ig, len) →
    2 * g.monitorRoom + (g.stack.map fun v => v.category).sum ≤ W9 → A.U.methodNamed? y = some mk → Pre A a →
    (∃ (v : Option Value) (B : Pt), Stand p l e R s m sargs below meth c B.U B.locs B.cells B.slots ∧ Post A a v B ∧
      Steps p.tables e below (doInvoke e (A.U.setTop g) [] mk a).1 (B.U.setTop { g with pc := g.pc + len, stack := v.toList ++ g.stack })) ∨
    (∃ (q : Addr) (B : Pt), Stand p l e R s m sargs below meth c B.U B.locs B.cells B.slots ∧ PostX A a q B ∧
      Steps p.tables e below (doInvoke e (A.U.setTop g) [] mk a).1 ((B.U.setTop g).pushFrame (.throwing q)))
section Payer
variable {l : Launch} {R : Room} {p : Program} {e : Env} {below : List Frame} {s : State} {sargs : Array Value} {y : MethodName} {len W9 : Nat}
theorem vx_back {ws : List Cond} {rm : Room} {Pc : Array Value → State → Prop} {Qc : Array Value → State → Outcome → State → Prop} {XC : String → State → State → Prop} {mc ms : Nat} {free : Addr → Prop} {bytes : ByteArray} {maxL : Nat} {ret : Option FieldType}
    (hM : vx_Met l y ws rm Pc Qc XC mc ms free) (hblind : FrameBlind Pc) (hrc : rm.cells = mc) (hrs : rm.slots = ms)
    (hframes : rm.frames + 1 ≤ R.frames) (hlocals : W9 + (maxL + 11) + rm.locals ≤ R.locals)
    (hws : ∀ w ∈ ws, ∀ a' U, s.WarmedH U.vm → w.before a' U = true) (hcode : Cond.code y bytes maxL ret ∈ ws) (hinit : ∀ a' U, s.WarmedH U.vm → (Cond.initialized y.cls).before a' U = true) :
    vx_Back l R p e below s sargs y len W9 (PreOf R mc ms Pc) (PostOf Qc mc ms free) (vx_Post XC mc ms free) := by
  intro m meth c A g ig mk a X hg hsize hdg hW hn hp
  have h1 : (headSpec ws rm).pre.before a A.U = true := atoms_intro fun w hw => hws w hw _ _ X.warmed
  have h2 : (Cond.code y bytes maxL ret).before a A.U = true := hws _ hcode _ _ X.warmed
  have h3 : (Cond.initialized y.cls).before a A.U = true := hinit _ _ X.warmed
  have h4 : A.cells + (headSpec ws rm).room.cells ≤ R.cells := by rw [show (headSpec ws rm).room.cells = mc from hrc]; exact hp.1
  have h5 : A.slots + (headSpec ws rm).room.slots ≤ R.slots := by rw [show (headSpec ws rm).room.slots = ms from hrs]; exact hp.2.1
  have hPc : Pc a (A.U.calling g mk a) := hblind _ _ _ _ hp.2.2
  obtain ⟨U, Ls, c0, s0⟩ := A
  dsimp only [Pt.U, Pt.locs, Pt.cells, Pt.slots] at h1 h2 h3 h4 h5 X hn hPc ⊢
  obtain ⟨methY, cY, hmY, hcY, -, hlY, -, -, -, -⟩ := Cond.code_spec hn h2
  obtain ⟨kY, hkY, -⟩ := className_of_methodNamed hn
  have hinitY : kY.init = .initialized := Cond.initialized_spec (findClass_of_methodNamed hn) hkY h3
  have h : At U g.method c below := by rw [hg]; exact X.here
  have hlocals9 : W9 + (maxL + 11) + (headSpec ws rm).room.locals ≤ R.locals := hlocals
  have happ : (headSpec ws rm).appliesLoose y e.platform (U.calling g mk a) = true :=
    Spec.appliesLoose_calling (g := g) h hdg hn hkY hinitY
      (X.room_calling (g := g) (R' := (headSpec ws rm).room) hsize hmY hcY hframes (by rw [hlY]; omega) h4 h5) h1
  obtain ⟨mid, hmid⟩ := h.above
  have hfr : (U.setTop g).frames = (.java g :: mid) ++ below := by rw [State.frames_setTop' g h.top, hmid]; rfl
  obtain ⟨o, s₂, hsteps, -, hend, hq⟩ := Steps.callFree hM p X.admits X.cas X.clock (acts := []) hfr happ hPc trivial
  have hq' : vx_Q Qc XC mc ms free a (U.calling g mk a) o s₂ := hq
  rw [State.frames_setTop' g h.top] at hend
  obtain ⟨g₀, hg0⟩ := Option.isSome_iff_exists.mp h.top
  obtain ⟨r, hr⟩ := State.topJava?_eq_some.mp hg0
  have hr' : (({ U with heap := s₂.heap, slotsUsed := s₂.slotsUsed } : State).setVm s₂.vm).frames = .java g₀ :: r := hr
  rcases hq' with ⟨hqc, L, hfe, hL⟩ | ⟨q, rfl, E, ce, L, hx, hce, hcv, hcl, hW₂, hsm, hL⟩
  · obtain ⟨⟨v, rfl⟩, hW₂, e2, q2, q3, q4, q5, q6⟩ := id hfe
    have e3 : s₂ = ({ (U.calling g mk a).setFrames s₂.frames with heap := s₂.heap, slotsUsed := s₂.slotsUsed } : State).setVm s₂.vm := by
      have : s₂ = ({ s₂ with vm := (U.calling g mk a).vm } : State).setVm s₂.vm := rfl
      rw [e2] at this
      exact this
    obtain ⟨c₂, i₂, len₂, hc₂, hd₂, hf₂⟩ := hend
    have hW' : U.WarmedH s₂.vm := hW₂
    have hcc : c₂ = c := by
      have h1 : s₂.code? g.method = U.code? g.method := by
        rw [State.code?_eq, State.code?_eq, hW'.alike.method?]
      exact Option.some.inj (hc₂.symm.trans (h1.trans h.code))
    subst hcc
    have hlen : len₂ = len := by rw [hdg] at hd₂; cases hd₂; rfl
    subst hlen
    have hs₂ : s₂ = (({ U with heap := s₂.heap, slotsUsed := s₂.slotsUsed } : State).setVm s₂.vm).setTop { g with pc := g.pc + len₂, stack := v.toList ++ g.stack } := by
      refine e3.trans ?_
      rw [hf₂, State.calling_eq h.top, State.setFrames_setFrames, State.setTop_of_frames _ hr', hr]
      rfl
    have hsame : U.sameButNew ({ U with heap := s₂.heap, slotsUsed := s₂.slotsUsed } : State) L mc ms := by
      refine ⟨?_, q2, q3, q4, q5, q6⟩
      obtain ⟨t, ht, -⟩ := State.frames_cons hr
      show ({ U with heap := s₂.heap, slotsUsed := s₂.slotsUsed } : State) = { U.setFrames U.frames with heap := s₂.heap, slotsUsed := s₂.slotsUsed }
      rw [State.setFrames_self ht]
    subst hg
    refine Or.inl ⟨v, ⟨(({ U with heap := s₂.heap, slotsUsed := s₂.slotsUsed } : State).setVm s₂.vm), Ls ++ L, c0 + mc, s0 + ms⟩,
      ⟨X.admits, X.cas, X.clock, X.frames, X.room, X.hears, X.method, X.code, (X.here.setHeapUsed s₂.heap s₂.slotsUsed).setVm hW'.alike, X.tail, State.WarmedH.trans X.warmed hW', X.limits, X.bytes, X.same.trans (hsame.setVm s.vm)⟩,
      ⟨g, mk, s₂, L, rfl, rfl, hqc, rfl, hL, rfl, rfl⟩, ?_⟩
    show Steps p.tables e below _ ((({ U with heap := s₂.heap, slotsUsed := s₂.slotsUsed } : State).setVm s₂.vm).setTop { g with pc := g.pc + len₂, stack := v.toList ++ g.stack })
    rw [← hs₂]
    exact hsteps
  · obtain ⟨e2, q2, q3, q4, q5, q6⟩ := id hsm
    have e3 : s₂ = ({ (U.calling g mk a).setFrames s₂.frames with heap := s₂.heap, slotsUsed := s₂.slotsUsed } : State).setVm s₂.vm := by
      have : s₂ = ({ s₂ with vm := (U.calling g mk a).vm } : State).setVm s₂.vm := rfl
      rw [e2] at this
      exact this
    have hf₂ : s₂.frames = .throwing q :: .java g :: U.frames.tail := hend
    have hW' : U.WarmedH s₂.vm := hW₂
    have hs₂ : s₂ = ((({ U with heap := s₂.heap, slotsUsed := s₂.slotsUsed } : State).setVm s₂.vm).setTop g).pushFrame (.throwing q) := by
      refine e3.trans ?_
      rw [hf₂, State.calling_eq h.top, State.setFrames_setFrames, State.pushFrame, State.frames_setTop _ hr', State.setTop_of_frames _ hr', State.setFrames_setFrames, hr]
      rfl
    have hsame : U.sameButNew ({ U with heap := s₂.heap, slotsUsed := s₂.slotsUsed } : State) L mc ms := by
      refine ⟨?_, q2, q3, q4, q5, q6⟩
      obtain ⟨t, ht, -⟩ := State.frames_cons hr
      show ({ U with heap := s₂.heap, slotsUsed := s₂.slotsUsed } : State) = { U.setFrames U.frames with heap := s₂.heap, slotsUsed := s₂.slotsUsed }
      rw [State.setFrames_self ht]
    subst hg
    refine Or.inr ⟨q, ⟨(({ U with heap := s₂.heap, slotsUsed := s₂.slotsUsed } : State).setVm s₂.vm), Ls ++ L, c0 + mc, s0 + ms⟩,
      ⟨X.admits, X.cas, X.clock, X.frames, X.room, X.hears, X.method, X.code, (X.here.setHeapUsed s₂.heap s₂.slotsUsed).setVm hW'.alike, X.tail, State.WarmedH.trans X.warmed hW', X.limits, X.bytes, X.same.trans (hsame.setVm s.vm)⟩,
      ⟨g, mk, s₂, L, E, ce, rfl, rfl, hx, hce, hcv, hcl, rfl, hL, rfl, rfl⟩, ?_⟩
    show Steps p.tables e below _ (((({ U with heap := s₂.heap, slotsUsed := s₂.slotsUsed } : State).setVm s₂.vm).setTop g).pushFrame (.throwing q))
    rw [← hs₂]
    exact hsteps
end Payer
section Calls
variable {p : Program} {l : Launch} {e : Env} {R : Room} {s : State} {m : MethodId} {args : Array Value} {below : List Frame} {meth : Method} {c : Code} {T : State} {locs : List Loc} {cells slots : Nat}
theorem vx_callV (X : Stand p l e R s m args below meth c T locs cells slots) (hexec : p.tables.exec = Jvm.exec) {own C : String} {index : Nat} {y : MethodName} {bytes : ByteArray} {maxL : Nat} {ret : Option FieldType}
    (hown : s.vm.findClass own = some m.cls) (hlink : (Cond.methodLink own index y).before args s = true) (hinst : (Cond.instanceMethod y).before args s = true) (hsel : (Cond.selects C y y).before args s = true)
    (hcode : (Cond.code y bytes maxL ret).before args s = true) (hy : y.cls ≠ "java/lang/invoke/MethodHandle" ∧ y.cls ≠ "java/lang/invoke/VarHandle")
    {W9 : Nat} {Pre : Pt → Array Value → Prop} {Post : Pt → Array Value → Option Value → Pt → Prop} {PostX : Pt → Array Value → Addr → Pt → Prop} (hK : vx_Back l R p e below s args y 3 W9 Pre Post PostX)
    {b : Addr} {cellB : Cell} (hcell : T.heap[b]? = some cellB) (hobj : cellB.vm.isStatics = false) (hcls : s.vm.findClass C = some cellB.cls)
    {g : JFrame} (hg : g.method = m) (hsize : g.locals.size = c.maxLocals) {argsL rest : List Value} (hlen : ∀ sig, parseMethodDescriptor y.desc = some sig → argsL.length = sig.parameters.length)
    (hstack : g.stack = argsL.reverse ++ .ref b :: rest) (hW : 2 * g.monitorRoom + (rest.map fun v => v.category).sum ≤ W9) (hdg : decode c.code g.pc = .ok (.invokevirtual index, 3))
    (hpre : ∀ vm₁, s.WarmedH vm₁ → Pre ⟨T.setVm vm₁, locs, cells, slots⟩ (Value.ref b :: argsL).toArray) :
    (∃ (v : Option Value) (vm₁ : Vm) (B : Pt), s.WarmedH vm₁ ∧ Stand p l e R s m args below meth c B.U B.locs B.cells B.slots ∧ Post ⟨T.setVm vm₁, locs, cells, slots⟩ (Value.ref b :: argsL).toArray v B ∧
      ∀ target, Steps p.tables e below (B.U.setTop { g with pc := g.pc + 3, stack := v.toList ++ rest }) target → Steps p.tables e below (T.setTop g) target) ∨
    (∃ (q : Addr) (vm₁ : Vm) (B : Pt), s.WarmedH vm₁ ∧ Stand p l e R s m args below meth c B.U B.locs B.cells B.slots ∧ PostX ⟨T.setVm vm₁, locs, cells, slots⟩ (Value.ref b :: argsL).toArray q B ∧
      Steps p.tables e below (T.setTop g) ((B.U.setTop { g with stack := rest }).pushFrame (.throwing q))) := by
  obtain ⟨mk, methM, hnamed, hmethM, hstM, habM⟩ := Cond.instanceMethod_spec hinst
  obtain ⟨methM', cM, hmethM', -, -, -, -, -, -, hsigM⟩ := Cond.code_spec hnamed hcode
  cases hmethM.symm.trans hmethM'
  obtain ⟨c2, r2, m2, q1, q2, q3, q4, kP, hkP, hkPi⟩ := Cond.selects_spec hsel
  cases hcls.symm.trans q1
  cases (State.methodFound?_of_named hnamed hy).symm.trans q2
  cases hnamed.symm.trans q3
  have hselP : selectMethod e.platform s.vm cellB.cls mk = .method mk := by rw [Launch.admits_selectMethod X.admits]; exact q4
  obtain ⟨vm₁, X₁, hstep₁⟩ := X.invokevirtual hexec hown hlink hnamed hmethM hstM hkP hkPi hy (a := b) (cell := cellB) hcell
    (fun z h => by rw [h] at hobj; cases hobj) hselP hmethM habM hkP hkPi (g := g) hg (argsL := argsL) (rest := rest) (hlen _ hsigM) hstack hdg
  rcases hK m meth c ⟨T.setVm vm₁, locs, cells, slots⟩ { g with stack := rest } (.invokevirtual index) mk (Value.ref b :: argsL).toArray X₁ hg hsize hdg hW (X₁.named hnamed) (hpre vm₁ X₁.warmed) with ⟨v, B, X', hpost, hsteps⟩ | ⟨q, B, X', hpost, hsteps⟩
  · exact Or.inl ⟨v, vm₁, B, X₁.warmed, X', hpost, fun target h => hstep₁ _ fun acts => by rw [doInvoke_state]; exact hsteps.trans h⟩
  · exact Or.inr ⟨q, vm₁, B, X₁.warmed, X', hpost, hstep₁ _ fun acts => by rw [doInvoke_state]; exact hsteps⟩
theorem vx_callS (X : Stand p l e R s m args below meth c T locs cells slots) (hexec : p.tables.exec = Jvm.exec) {own : String} {index : Nat} {y : MethodName} {bytes : ByteArray} {maxL : Nat} {ret : Option FieldType}
    (hown : s.vm.findClass own = some m.cls) (hlink : (Cond.methodLink own index y).before args s = true) (hstat : (Cond.static y).before args s = true) (hinit : (Cond.initialized y.cls).before args s = true)
    (hcode : (Cond.code y bytes maxL ret).before args s = true) (hy : y.cls ≠ "java/lang/invoke/MethodHandle" ∧ y.cls ≠ "java/lang/invoke/VarHandle")
    {W9 : Nat} {Pre : Pt → Array Value → Prop} {Post : Pt → Array Value → Option Value → Pt → Prop} {PostX : Pt → Array Value → Addr → Pt → Prop} (hK : vx_Back l R p e below s args y 3 W9 Pre Post PostX)
    {g : JFrame} (hg : g.method = m) (hsize : g.locals.size = c.maxLocals) {argsL rest : List Value} (hlen : ∀ sig, parseMethodDescriptor y.desc = some sig → argsL.length = sig.parameters.length)
    (hstack : g.stack = argsL.reverse ++ rest) (hW : 2 * g.monitorRoom + (rest.map fun v => v.category).sum ≤ W9) (hdg : decode c.code g.pc = .ok (.invokestatic index, 3))
    (hpre : ∀ vm₁, s.WarmedH vm₁ → Pre ⟨T.setVm vm₁, locs, cells, slots⟩ argsL.toArray) :
    (∃ (v : Option Value) (vm₁ : Vm) (B : Pt), s.WarmedH vm₁ ∧ Stand p l e R s m args below meth c B.U B.locs B.cells B.slots ∧ Post ⟨T.setVm vm₁, locs, cells, slots⟩ argsL.toArray v B ∧
      ∀ target, Steps p.tables e below (B.U.setTop { g with pc := g.pc + 3, stack := v.toList ++ rest }) target → Steps p.tables e below (T.setTop g) target) ∨
    (∃ (q : Addr) (vm₁ : Vm) (B : Pt), s.WarmedH vm₁ ∧ Stand p l e R s m args below meth c B.U B.locs B.cells B.slots ∧ PostX ⟨T.setVm vm₁, locs, cells, slots⟩ argsL.toArray q B ∧
      Steps p.tables e below (T.setTop g) ((B.U.setTop { g with stack := rest }).pushFrame (.throwing q))) := by
  obtain ⟨mk, hnamed⟩ := Cond.code_named hcode
  obtain ⟨methM, cM, hmethM, -, -, -, -, -, -, hsigM⟩ := Cond.code_spec hnamed hcode
  have hstatic : methM.isStatic = true := Cond.static_spec hnamed hmethM hstat
  obtain ⟨kP, hkP, -⟩ := className_of_methodNamed hnamed
  have hinitP : kP.init = .initialized := Cond.initialized_spec (findClass_of_methodNamed hnamed) hkP hinit
  obtain ⟨vm₁, X₁, hstep₁⟩ := X.invokestatic hexec hown hlink hnamed hmethM hstatic hkP hinitP hy (g := g) hg (argsL := argsL) (rest := rest) (hlen _ hsigM) hstack hdg
  rcases hK m meth c ⟨T.setVm vm₁, locs, cells, slots⟩ { g with stack := rest } (.invokestatic index) mk argsL.toArray X₁ hg hsize hdg hW (X₁.named hnamed) (hpre vm₁ X₁.warmed) with ⟨v, B, X', hpost, hsteps⟩ | ⟨q, B, X', hpost, hsteps⟩
  · exact Or.inl ⟨v, vm₁, B, X₁.warmed, X', hpost, fun target h => hstep₁ _ fun acts => by rw [doInvoke_state]; exact hsteps.trans h⟩
  · exact Or.inr ⟨q, vm₁, B, X₁.warmed, X', hpost, hstep₁ _ fun acts => by rw [doInvoke_state]; exact hsteps⟩
end Calls
theorem vx_cls {s : State} {T : State} {vm₁ : Vm} {E : String} {k : ClassId} (hW : s.WarmedH vm₁) (h : (T.setVm vm₁).vm.findClass E = some k) : s.vm.findClass E = some k := by
  have h1 : vm₁.findClass E = some k := h
  rw [hW.alike.findClass] at h1
  exact h1
/-- the method's frame g, with q thrown over it -/
def vx_W (p : Program) (l : Launch) (e : Env) (R : Room) (s : State) (m : MethodId) (args : Array Value) (below : List Frame) (meth : Method) (c : Code) (H : Heap) (locs : List Loc) (cells slots : Nat) (Q : State → Prop) (g : JFrame) (q : Addr) : Prop :=
  ∀ T : State, T.heap = H → Stand p l e R s m args below meth c T locs cells slots → ∃ t, Steps p.tables e below ((T.setTop g).pushFrame (.throwing q)) t ∧ Q t
def vx_Run (p : Program) (l : Launch) (e : Env) (R : Room) (s : State) (m : MethodId) (args : Array Value) (below : List Frame) (meth : Method) (c : Code) (H : Heap) (locs : List Loc) (cells slots mc ms : Nat) (g : JFrame) (rest : List Value) (Qa : State → Outcome → State → Prop) (XC : String → State → State → Prop) (free : Addr → Prop) : Prop :=
  ∀ T : State, T.heap = H → Stand p l e R s m args below meth c T locs cells slots →
    (∃ (v : Option Value) (st₀ t T' : State) (L : List Loc), st₀.heap = H ∧ Stand p l e R s m args below meth c T' (locs ++ L) (cells + mc) (slots + ms) ∧ (∀ q ∈ L, free q.base) ∧ T'.heap = t.heap ∧ T'.vm = t.vm ∧ Qa st₀ (.returned v) t ∧
      Goes p e below T g T' { g with pc := g.pc + 3, stack := v.toList ++ rest }) ∨
    (∃ (q : Addr) (st₀ t T' : State) (L : List Loc) (E : String) (ce : Cell), st₀.heap = H ∧ Stand p l e R s m args below meth c T' (locs ++ L) (cells + mc) (slots + ms) ∧ (∀ z ∈ L, free z.base) ∧ T'.heap = t.heap ∧ T'.vm = t.vm ∧ XC E st₀ t ∧ t.heap[q]? = some ce ∧ ce.vm = .none ∧ s.vm.findClass E = some ce.cls ∧
      Steps p.tables e below (T.setTop g) ((T'.setTop { g with stack := rest }).pushFrame (.throwing q)))
def vx_X {S : Type} (px : S → Prop) (B : String → S → State → Prop) (A : Nat → Prop) : String → State → State → Prop := fun E st t => ∃ u : S, px u ∧ B E u t ∧ va_F A st t
section Runs
variable {p : Program} {l : Launch} {e : Env} {R : Room} {s : State} {m : MethodId} {args : Array Value} {below : List Frame} {meth : Method} {c : Code} {H : Heap} {locs : List Loc} {cells slots : Nat}
variable {y : MethodName} {bytes cc : ByteArray} {maxL nL mc ms n index : Nat} {ret : Option FieldType} {ws : List Cond} {rm : Room} {Pc : Array Value → State → Prop} {Qc : Array Value → State → Outcome → State → Prop} {XC : String → State → State → Prop} {free : Addr → Prop} {Ts : List Cond} {own C : String} {b : Addr} {As rest : List Value} {g : JFrame}
theorem vx_callBack (cb : CallB R s args own index y bytes maxL ret ws rm mc ms n) (hM : vx_Met l y ws rm Pc Qc XC mc ms free) (hbl : FrameBlind Pc) : vx_Back l R p e below s args y 3 8 (PreOf R mc ms Pc) (PostOf Qc mc ms free) (vx_Post XC mc ms free) := by
  obtain ⟨hrc, hrs, hfr, hlo, hws, hcw, -, hini, -⟩ := cb
  exact vx_back (bytes := bytes) (maxL := maxL) (ret := ret) hM hbl hrc hrs hfr hlo hws hcw (fun a' U hW => word_at hW (Or.inl (by first | rfl | simp [Cond.onTables, Cond.keeps, Cond.steady])) hini)
theorem vx_runV (S : CallFix p m c cc nL s args Ts own) (hM : vx_Met l y ws rm Pc Qc XC mc ms free) (cw : CallW R s args own C index y bytes maxL ret ws rm mc ms n) (hp : PreV s H C b Pc As)
    (hg : g.method = m) (hn : As.length = n) (hsize : g.locals.size = nL) (hstack : g.stack = As.reverse ++ .ref b :: rest) (hW : 2 * g.monitorRoom + (rest.map fun v => v.category).sum ≤ 8) (hdg : decode cc g.pc = .ok (.invokevirtual index, 3)) (hf : cells + mc ≤ R.cells ∧ slots + ms ≤ R.slots) :
    vx_Run p l e R s m args below meth c H locs cells slots mc ms g rest (Qc (Value.ref b :: As).toArray) XC free := by
  have hK : vx_Back l R p e below s args y 3 8 (PreOf R mc ms Pc) (PostOf Qc mc ms free) (vx_Post XC mc ms free) := vx_callBack cw.1 hM hp.1
  obtain ⟨⟨-, -, -, -, -, -, hcode, -, hy, hlen, hl⟩, hin, hse⟩ := cw
  obtain ⟨hx, hb, hml, ho, -⟩ := S
  obtain ⟨-, ⟨cellB, hcB, hoB, hclB⟩, hPc⟩ := hp
  intro T hT X
  rcases vx_callV X hx (C := C) (bytes := bytes) (maxL := maxL) (ret := ret) ho hl hin hse hcode hy hK (by rw [hT]; exact hcB) hoB hclB hg (hsize.trans hml.symm) (argsL := As) (rest := rest) (fun sig h => hn.trans (hlen sig h)) hstack hW (by rw [hb]; exact hdg)
    (fun vm₁ hW₁ => ⟨hf.1, hf.2, hPc (T.setVm vm₁) hT hW₁⟩) with ⟨v, vm₁, ⟨U', l2, c2, s2⟩, hW₁, X', ⟨g', mk, t, L, e1, e2, hq, h1, hL, h2, h3⟩, st⟩ | ⟨q, vm₁, ⟨U', l2, c2, s2⟩, hW₁, X', ⟨g', mk, t, L, E, ce, e1, e2, hq, hce, hcv, hcl, h1, hL, h2, h3⟩, st⟩
  · dsimp only [Pt.U, Pt.locs, Pt.cells, Pt.slots] at X' e1 e2 h1 h2 h3 st
    subst h1; subst h2; subst h3
    exact Or.inl ⟨v, (T.setVm vm₁).calling g' mk (Value.ref b :: As).toArray, t, U', L, hT, X', hL, e1, e2, hq, st⟩
  · dsimp only [Pt.U, Pt.locs, Pt.cells, Pt.slots] at X' e1 e2 h1 h2 h3 st hcl
    subst h1; subst h2; subst h3
    exact Or.inr ⟨q, (T.setVm vm₁).calling g' mk (Value.ref b :: As).toArray, t, U', L, E, ce, hT, X', hL, e1, e2, hq, hce, hcv, vx_cls hW₁ hcl, st⟩
theorem vx_runS (S : CallFix p m c cc nL s args Ts own) (hM : vx_Met l y ws rm Pc Qc XC mc ms free) (cw : CallB R s args own index y bytes maxL ret ws rm mc ms n ∧ (Cond.static y).before args s = true) (hp : PreS s H Pc As)
    (hg : g.method = m) (hn : As.length = n) (hsize : g.locals.size = nL) (hstack : g.stack = As.reverse ++ rest) (hW : 2 * g.monitorRoom + (rest.map fun v => v.category).sum ≤ 8) (hdg : decode cc g.pc = .ok (.invokestatic index, 3)) (hf : cells + mc ≤ R.cells ∧ slots + ms ≤ R.slots) :
    vx_Run p l e R s m args below meth c H locs cells slots mc ms g rest (Qc As.toArray) XC free := by
  have hK : vx_Back l R p e below s args y 3 8 (PreOf R mc ms Pc) (PostOf Qc mc ms free) (vx_Post XC mc ms free) := vx_callBack cw.1 hM hp.1
  obtain ⟨⟨-, -, -, -, -, -, hcode, hini, hy, hlen, hl⟩, hstt⟩ := cw
  obtain ⟨hx, hb, hml, ho, -⟩ := S
  intro T hT X
  rcases vx_callS X hx (bytes := bytes) (maxL := maxL) (ret := ret) ho hl hstt hini hcode hy hK hg (hsize.trans hml.symm) (argsL := As) (rest := rest) (fun sig h => hn.trans (hlen sig h)) hstack hW (by rw [hb]; exact hdg)
    (fun vm₁ hW₁ => ⟨hf.1, hf.2, hp.2 (T.setVm vm₁) hT hW₁⟩) with ⟨v, vm₁, ⟨U', l2, c2, s2⟩, hW₁, X', ⟨g', mk, t, L, e1, e2, hq, h1, hL, h2, h3⟩, st⟩ | ⟨q, vm₁, ⟨U', l2, c2, s2⟩, hW₁, X', ⟨g', mk, t, L, E, ce, e1, e2, hq, hce, hcv, hcl, h1, hL, h2, h3⟩, st⟩
  · dsimp only [Pt.U, Pt.locs, Pt.cells, Pt.slots] at X' e1 e2 h1 h2 h3 st
    subst h1; subst h2; subst h3
    exact Or.inl ⟨v, (T.setVm vm₁).calling g' mk As.toArray, t, U', L, hT, X', hL, e1, e2, hq, st⟩
  · dsimp only [Pt.U, Pt.locs, Pt.cells, Pt.slots] at X' e1 e2 h1 h2 h3 st hcl
    subst h1; subst h2; subst h3
    exact Or.inr ⟨q, (T.setVm vm₁).calling g' mk As.toArray, t, U', L, E, ce, hT, X', hL, e1, e2, hq, hce, hcv, vx_cls hW₁ hcl, st⟩
end Runs
section Rows
variable {p : Program} {l : Launch} {e : Env} {R : Room} {s : State} {m : MethodId} {args : Array Value} {below : List Frame} {meth : Method} {c : Code} {H : Heap} {locs : List Loc} {cells slots : Nat} {Q : State → Prop}
variable {mc ms : Nat} {free : Addr → Prop} {A0 A1 : Nat → Prop} {H0 : Heap} {a : Array Value} {pc : Nat} {ls : Array Slot} {st0 rest : List Value}
theorem vx_keep {st₀ t T' : State} {L : List Loc} (h0 : st₀.heap = H) (e1 : T'.heap = t.heap) (hS : va_S A0 H0 H locs) (hA : ∀ q, q < H.size → A1 q → A0 q) (hf : ∀ q, free q → A0 q) (hL : ∀ q ∈ L, free q.base) (hF : va_F A1 st₀ t) :
    H.size ≤ T'.heap.size ∧ (∀ q : Nat, q < H.size → ¬ A1 q → T'.heap[q]? = H[q]?) ∧ va_S A0 H0 T'.heap (locs ++ L) := by
  obtain ⟨hz, hk⟩ := hF
  rw [h0] at hz hk
  exact ⟨by rw [e1]; exact hz, fun q h1 h2 => by rw [e1]; exact hk q h1 h2,
    ⟨Nat.le_trans hS.1 (by rw [e1]; exact hz), fun q h1 h2 => by rw [e1, hk q (Nat.lt_of_lt_of_le h1 hS.1) (fun z => h2 (hA q (Nat.lt_of_lt_of_le h1 hS.1) z))]; exact hS.2.1 q h1 h2, fun q hq => by
      rcases List.mem_append.mp hq with h | h
      · exact hS.2.2 q h
      · exact hf _ (hL q h)⟩⟩
theorem vx_calli {S SX : Type} {post : Int32 → S → Prop} {px : SX → Prop} {B : S → State → Prop} {BX : String → SX → State → Prop} {AX : Nat → Prop} (hr : vx_Run p l e R s m args below meth c H locs cells slots mc ms (F0 m pc ls st0) rest (va_Qi post B A1 a) (vx_X px BX AX) free) (hS : va_S A0 H0 H locs) (hA : ∀ q, q < H.size → A1 q → A0 q) (hf : ∀ q, free q → A0 q) (hAX : ∀ q, q < H.size → AX q → A0 q)
    (kx : ∀ (E : String) (ce : Cell) (q9 : Addr) (u : SX) (t : State) (H1 : Heap) (locs1 : List Loc), t.heap = H1 → s.vm.Alike t.vm → px u → BX E u t → H.size ≤ H1.size → (∀ q : Nat, q < H.size → ¬ AX q → H1[q]? = H[q]?) → va_S A0 H0 H1 locs1 → H1[q9]? = some ce → ce.vm = .none → s.vm.findClass E = some ce.cls → vx_W p l e R s m args below meth c H1 locs1 (cells + mc) (slots + ms) Q (F0 m pc ls rest) q9)
    (kk : ∀ (r : Int32) (u : S) (t : State) (H1 : Heap) (locs1 : List Loc), t.heap = H1 → s.vm.Alike t.vm → post r u → B u t → H.size ≤ H1.size → (∀ q : Nat, q < H.size → ¬ A1 q → H1[q]? = H[q]?) → va_S A0 H0 H1 locs1 → W p l e R s m args below meth c H1 locs1 (cells + mc) (slots + ms) Q (F0 m (pc + 3) ls (.int r :: rest))) : W p l e R s m args below meth c H locs cells slots Q (F0 m pc ls st0) := by
  intro T hT X
  rcases hr T hT X with ⟨v, st₀, t, T', L, h0, X', hL, e1, e2, ⟨⟨r, u, hv, hp, hb⟩, hF⟩, st⟩ | ⟨q, st₀, t, T', L, E, ce, h0, X', hL, e1, e2, ⟨u, hp, hb, hF⟩, hce, hcv, hcl, st⟩
  · cases hv
    obtain ⟨k1, k2, k3⟩ := vx_keep h0 e1 hS hA hf hL hF
    obtain ⟨t2, a1, b1⟩ := kk r u t T'.heap (locs ++ L) e1.symm (by rw [← e2]; exact X'.warmed.alike) hp hb k1 k2 k3 T' rfl X'
    exact ⟨t2, st t2 a1, b1⟩
  · obtain ⟨k1, k2, k3⟩ := vx_keep h0 e1 hS hAX hf hL hF
    obtain ⟨t2, a1, b1⟩ := kx E ce q u t T'.heap (locs ++ L) e1.symm (by rw [← e2]; exact X'.warmed.alike) hp hb k1 k2 k3 (by rw [e1]; exact hce) hcv hcl T' rfl X'
    exact ⟨t2, st.trans a1, b1⟩
theorem vx_calll {S SX : Type} {post : Int64 → S → Prop} {px : SX → Prop} {B : S → State → Prop} {BX : String → SX → State → Prop} {AX : Nat → Prop} (hr : vx_Run p l e R s m args below meth c H locs cells slots mc ms (F0 m pc ls st0) rest (va_Ql post B A1 a) (vx_X px BX AX) free) (hS : va_S A0 H0 H locs) (hA : ∀ q, q < H.size → A1 q → A0 q) (hf : ∀ q, free q → A0 q) (hAX : ∀ q, q < H.size → AX q → A0 q)
    (kx : ∀ (E : String) (ce : Cell) (q9 : Addr) (u : SX) (t : State) (H1 : Heap) (locs1 : List Loc), t.heap = H1 → s.vm.Alike t.vm → px u → BX E u t → H.size ≤ H1.size → (∀ q : Nat, q < H.size → ¬ AX q → H1[q]? = H[q]?) → va_S A0 H0 H1 locs1 → H1[q9]? = some ce → ce.vm = .none → s.vm.findClass E = some ce.cls → vx_W p l e R s m args below meth c H1 locs1 (cells + mc) (slots + ms) Q (F0 m pc ls rest) q9)
    (kk : ∀ (r : Int64) (u : S) (t : State) (H1 : Heap) (locs1 : List Loc), t.heap = H1 → s.vm.Alike t.vm → post r u → B u t → H.size ≤ H1.size → (∀ q : Nat, q < H.size → ¬ A1 q → H1[q]? = H[q]?) → va_S A0 H0 H1 locs1 → W p l e R s m args below meth c H1 locs1 (cells + mc) (slots + ms) Q (F0 m (pc + 3) ls (.long r :: rest))) : W p l e R s m args below meth c H locs cells slots Q (F0 m pc ls st0) := by
  intro T hT X
  rcases hr T hT X with ⟨v, st₀, t, T', L, h0, X', hL, e1, e2, ⟨⟨r, u, hv, hp, hb⟩, hF⟩, st⟩ | ⟨q, st₀, t, T', L, E, ce, h0, X', hL, e1, e2, ⟨u, hp, hb, hF⟩, hce, hcv, hcl, st⟩
  · cases hv
    obtain ⟨k1, k2, k3⟩ := vx_keep h0 e1 hS hA hf hL hF
    obtain ⟨t2, a1, b1⟩ := kk r u t T'.heap (locs ++ L) e1.symm (by rw [← e2]; exact X'.warmed.alike) hp hb k1 k2 k3 T' rfl X'
    exact ⟨t2, st t2 a1, b1⟩
  · obtain ⟨k1, k2, k3⟩ := vx_keep h0 e1 hS hAX hf hL hF
    obtain ⟨t2, a1, b1⟩ := kx E ce q u t T'.heap (locs ++ L) e1.symm (by rw [← e2]; exact X'.warmed.alike) hp hb k1 k2 k3 (by rw [e1]; exact hce) hcv hcl T' rfl X'
    exact ⟨t2, st.trans a1, b1⟩
theorem vx_callf {S SX : Type} {post : UInt32 → S → Prop} {px : SX → Prop} {B : S → State → Prop} {BX : String → SX → State → Prop} {AX : Nat → Prop} (hr : vx_Run p l e R s m args below meth c H locs cells slots mc ms (F0 m pc ls st0) rest (va_Qf post B A1 a) (vx_X px BX AX) free) (hS : va_S A0 H0 H locs) (hA : ∀ q, q < H.size → A1 q → A0 q) (hf : ∀ q, free q → A0 q) (hAX : ∀ q, q < H.size → AX q → A0 q)
    (kx : ∀ (E : String) (ce : Cell) (q9 : Addr) (u : SX) (t : State) (H1 : Heap) (locs1 : List Loc), t.heap = H1 → s.vm.Alike t.vm → px u → BX E u t → H.size ≤ H1.size → (∀ q : Nat, q < H.size → ¬ AX q → H1[q]? = H[q]?) → va_S A0 H0 H1 locs1 → H1[q9]? = some ce → ce.vm = .none → s.vm.findClass E = some ce.cls → vx_W p l e R s m args below meth c H1 locs1 (cells + mc) (slots + ms) Q (F0 m pc ls rest) q9)
    (kk : ∀ (r : UInt32) (u : S) (t : State) (H1 : Heap) (locs1 : List Loc), t.heap = H1 → s.vm.Alike t.vm → post r u → B u t → H.size ≤ H1.size → (∀ q : Nat, q < H.size → ¬ A1 q → H1[q]? = H[q]?) → va_S A0 H0 H1 locs1 → W p l e R s m args below meth c H1 locs1 (cells + mc) (slots + ms) Q (F0 m (pc + 3) ls (.float r :: rest))) : W p l e R s m args below meth c H locs cells slots Q (F0 m pc ls st0) := by
  intro T hT X
  rcases hr T hT X with ⟨v, st₀, t, T', L, h0, X', hL, e1, e2, ⟨⟨r, u, hv, hp, hb⟩, hF⟩, st⟩ | ⟨q, st₀, t, T', L, E, ce, h0, X', hL, e1, e2, ⟨u, hp, hb, hF⟩, hce, hcv, hcl, st⟩
  · cases hv
    obtain ⟨k1, k2, k3⟩ := vx_keep h0 e1 hS hA hf hL hF
    obtain ⟨t2, a1, b1⟩ := kk r u t T'.heap (locs ++ L) e1.symm (by rw [← e2]; exact X'.warmed.alike) hp hb k1 k2 k3 T' rfl X'
    exact ⟨t2, st t2 a1, b1⟩
  · obtain ⟨k1, k2, k3⟩ := vx_keep h0 e1 hS hAX hf hL hF
    obtain ⟨t2, a1, b1⟩ := kx E ce q u t T'.heap (locs ++ L) e1.symm (by rw [← e2]; exact X'.warmed.alike) hp hb k1 k2 k3 (by rw [e1]; exact hce) hcv hcl T' rfl X'
    exact ⟨t2, st.trans a1, b1⟩
theorem vx_calld {S SX : Type} {post : UInt64 → S → Prop} {px : SX → Prop} {B : S → State → Prop} {BX : String → SX → State → Prop} {AX : Nat → Prop} (hr : vx_Run p l e R s m args below meth c H locs cells slots mc ms (F0 m pc ls st0) rest (va_Qd post B A1 a) (vx_X px BX AX) free) (hS : va_S A0 H0 H locs) (hA : ∀ q, q < H.size → A1 q → A0 q) (hf : ∀ q, free q → A0 q) (hAX : ∀ q, q < H.size → AX q → A0 q)
    (kx : ∀ (E : String) (ce : Cell) (q9 : Addr) (u : SX) (t : State) (H1 : Heap) (locs1 : List Loc), t.heap = H1 → s.vm.Alike t.vm → px u → BX E u t → H.size ≤ H1.size → (∀ q : Nat, q < H.size → ¬ AX q → H1[q]? = H[q]?) → va_S A0 H0 H1 locs1 → H1[q9]? = some ce → ce.vm = .none → s.vm.findClass E = some ce.cls → vx_W p l e R s m args below meth c H1 locs1 (cells + mc) (slots + ms) Q (F0 m pc ls rest) q9)
    (kk : ∀ (r : UInt64) (u : S) (t : State) (H1 : Heap) (locs1 : List Loc), t.heap = H1 → s.vm.Alike t.vm → post r u → B u t → H.size ≤ H1.size → (∀ q : Nat, q < H.size → ¬ A1 q → H1[q]? = H[q]?) → va_S A0 H0 H1 locs1 → W p l e R s m args below meth c H1 locs1 (cells + mc) (slots + ms) Q (F0 m (pc + 3) ls (.double r :: rest))) : W p l e R s m args below meth c H locs cells slots Q (F0 m pc ls st0) := by
  intro T hT X
  rcases hr T hT X with ⟨v, st₀, t, T', L, h0, X', hL, e1, e2, ⟨⟨r, u, hv, hp, hb⟩, hF⟩, st⟩ | ⟨q, st₀, t, T', L, E, ce, h0, X', hL, e1, e2, ⟨u, hp, hb, hF⟩, hce, hcv, hcl, st⟩
  · cases hv
    obtain ⟨k1, k2, k3⟩ := vx_keep h0 e1 hS hA hf hL hF
    obtain ⟨t2, a1, b1⟩ := kk r u t T'.heap (locs ++ L) e1.symm (by rw [← e2]; exact X'.warmed.alike) hp hb k1 k2 k3 T' rfl X'
    exact ⟨t2, st t2 a1, b1⟩
  · obtain ⟨k1, k2, k3⟩ := vx_keep h0 e1 hS hAX hf hL hF
    obtain ⟨t2, a1, b1⟩ := kx E ce q u t T'.heap (locs ++ L) e1.symm (by rw [← e2]; exact X'.warmed.alike) hp hb k1 k2 k3 (by rw [e1]; exact hce) hcv hcl T' rfl X'
    exact ⟨t2, st.trans a1, b1⟩
theorem vx_callv {S SX : Type} {post : S → Prop} {px : SX → Prop} {B : S → State → Prop} {BX : String → SX → State → Prop} {AX : Nat → Prop} (hr : vx_Run p l e R s m args below meth c H locs cells slots mc ms (F0 m pc ls st0) rest (va_Qv post B A1 a) (vx_X px BX AX) free) (hS : va_S A0 H0 H locs) (hA : ∀ q, q < H.size → A1 q → A0 q) (hf : ∀ q, free q → A0 q) (hAX : ∀ q, q < H.size → AX q → A0 q)
    (kx : ∀ (E : String) (ce : Cell) (q9 : Addr) (u : SX) (t : State) (H1 : Heap) (locs1 : List Loc), t.heap = H1 → s.vm.Alike t.vm → px u → BX E u t → H.size ≤ H1.size → (∀ q : Nat, q < H.size → ¬ AX q → H1[q]? = H[q]?) → va_S A0 H0 H1 locs1 → H1[q9]? = some ce → ce.vm = .none → s.vm.findClass E = some ce.cls → vx_W p l e R s m args below meth c H1 locs1 (cells + mc) (slots + ms) Q (F0 m pc ls rest) q9)
    (kk : ∀ (u : S) (t : State) (H1 : Heap) (locs1 : List Loc), t.heap = H1 → s.vm.Alike t.vm → post u → B u t → H.size ≤ H1.size → (∀ q : Nat, q < H.size → ¬ A1 q → H1[q]? = H[q]?) → va_S A0 H0 H1 locs1 → W p l e R s m args below meth c H1 locs1 (cells + mc) (slots + ms) Q (F0 m (pc + 3) ls (rest))) : W p l e R s m args below meth c H locs cells slots Q (F0 m pc ls st0) := by
  intro T hT X
  rcases hr T hT X with ⟨v, st₀, t, T', L, h0, X', hL, e1, e2, ⟨⟨u, hv, hp, hb⟩, hF⟩, st⟩ | ⟨q, st₀, t, T', L, E, ce, h0, X', hL, e1, e2, ⟨u, hp, hb, hF⟩, hce, hcv, hcl, st⟩
  · cases hv
    obtain ⟨k1, k2, k3⟩ := vx_keep h0 e1 hS hA hf hL hF
    obtain ⟨t2, a1, b1⟩ := kk u t T'.heap (locs ++ L) e1.symm (by rw [← e2]; exact X'.warmed.alike) hp hb k1 k2 k3 T' rfl X'
    exact ⟨t2, st t2 a1, b1⟩
  · obtain ⟨k1, k2, k3⟩ := vx_keep h0 e1 hS hAX hf hL hF
    obtain ⟨t2, a1, b1⟩ := kx E ce q u t T'.heap (locs ++ L) e1.symm (by rw [← e2]; exact X'.warmed.alike) hp hb k1 k2 k3 (by rw [e1]; exact hce) hcv hcl T' rfl X'
    exact ⟨t2, st.trans a1, b1⟩
/-- caught by the row x of this method's table; the rows ahead don't take it -/
theorem vx_catch {own name : String} {E : String} {ce : Cell} {q : Addr} (hown : s.vm.findClass own = some m.cls) (pre : List ExceptionTableEntry) (x : ExceptionTableEntry) (suf : List ExceptionTableEntry) (hsplit : c.exceptionTable.toList = pre ++ x :: suf)
    (hpass : ∀ z ∈ pre, covers z pc = false ∨ (z.catchType ≠ 0 ∧ ∃ nm : String, (Cond.classLink own z.catchType nm).before args s = true ∧ va_Nc E nm s)) (hx : covers x pc = true) (h0 : x.catchType ≠ 0)
    (hlink : (Cond.classLink own x.catchType name).before args s = true) (hcast : (Cond.castable E name).before args s = true) (hcell : H[q]? = some ce) (hv : ce.vm = .none) (hcl : s.vm.findClass E = some ce.cls)
    (kk : W p l e R s m args below meth c H locs cells slots Q (F0 m x.handlerPc ls [.ref q])) : vx_W p l e R s m args below meth c H locs cells slots Q (F0 m pc ls rest) q := by
  intro T hT X
  have hpl : e.platform.magicAccessors = ({} : Platform).magicAccessors := by rw [X.admits.platform]
  obtain ⟨c3, c4, hc3, hc4, hasg⟩ := Cond.castable_spec hcast
  cases Option.some.inj (hc3.symm.trans hcl)
  obtain ⟨c5, hc5, hcl5⟩ := Cond.classLink_spec hown hlink e.platform hpl
  cases Option.some.inj (hc4.symm.trans hc5)
  obtain ⟨vm', X', st⟩ := Stand.thenCaughtThrough X q (g := F0 m pc ls rest) rfl (Steps.refl _) (by rw [hT]; exact hcell) (by rw [hv]; rfl) (by obtain ⟨k9, h9, -⟩ := Vm.findClass_spec hcl; exact ⟨k9, h9⟩) pre x suf hsplit
    (fun z hz => by
      rcases hpass z hz with h | ⟨hz0, nm, hl1, hn1⟩
      · exact Or.inl h
      · obtain ⟨c6, hc6, hcl6⟩ := Cond.classLink_spec hown hl1 e.platform hpl
        obtain ⟨a8, b8, h1, h2, h3⟩ := hn1
        cases Option.some.inj (h1.symm.trans hcl)
        cases Option.some.inj (h2.symm.trans hc6)
        exact Or.inr ⟨hz0, _, hcl6, h3⟩) hx (Or.inr ⟨h0, c4, hcl5, hasg⟩)
  obtain ⟨t, a1, b1⟩ := kk (T.setVm vm') hT X'
  exact ⟨t, st.trans a1, b1⟩
end Rows
section Ends
variable {p : Program} {l : Launch} {e : Env} {R : Room} {s : State} {m : MethodId} {args : Array Value} {below : List Frame} {meth : Method} {c : Code} {H : Heap} {locs : List Loc} {cells slots : Nat} {Q : State → Prop}
variable {mc ms : Nat} {free : Addr → Prop} {A0 A1 : Nat → Prop} {H0 : Heap} {a : Array Value} {ls : Array Slot} {st0 rest : List Value}
variable {Qc : Array Value → State → Outcome → State → Prop} {XC : String → State → State → Prop}
/-- what a body that may throw owes at its end -/
def vx_MQ (below : List Frame) (Qc : Array Value → State → Outcome → State → Prop) (XC : String → State → State → Prop) (a : Array Value) (s : State) (mc ms : Nat) (free : Addr → Prop) : State → Prop := fun t =>
  ∃ o, t.status = .running ∧ Ended t below o ∧ vx_Q Qc XC mc ms free a s o t
theorem vx_ret {g : JFrame} {mc ms : Nat} (k : W p l e R s m args below meth c H locs cells slots (MQ below Qc args s mc ms free) g) : W p l e R s m args below meth c H locs cells slots (vx_MQ below Qc XC args s mc ms free) g := by
  intro T hT X
  obtain ⟨t, a1, o, b1, b2, b3, b4⟩ := k T hT X
  exact ⟨t, a1, o, b1, b2, Or.inl ⟨b3, b4⟩⟩
/-- not caught here: it goes on to the caller -/
theorem vx_widen {g : JFrame} {q : Addr} {k n : Nat} (h1 : cells ≤ k) (h2 : slots ≤ n) (kk : vx_W p l e R s m args below meth c H locs k n Q g q) : vx_W p l e R s m args below meth c H locs cells slots Q g q := fun T hT X => kk T hT (stand_widen X h1 h2)
theorem vx_out {pc : Nat} {E : String} {ce : Cell} {q : Addr} {mc ms : Nat} (hout : ∀ x ∈ c.exceptionTable.toList, covers x pc = false) (hlocks : meth.locks = false) (hcell : H[q]? = some ce) (hv : ce.vm = .none) (hcl : s.vm.findClass E = some ce.cls)
    (hx : ∀ t : State, t.heap = H → s.vm.Alike t.vm → XC E s t) (hf : ∀ z ∈ locs, free z.base) (hc : cells ≤ mc) (hs : slots ≤ ms) :
    vx_W p l e R s m args below meth c H locs cells slots (vx_MQ below Qc XC args s mc ms free) (F0 m pc ls rest) q := by
  intro T hT X
  obtain ⟨st1, hrun, hend, hW, hsm⟩ := X.leaveThrown q (g := F0 m pc ls rest) rfl rfl rfl hout hlocks
  have hcell9 : (T.setFrames (.throwing q :: below)).heap[q]? = some ce := by
    show T.heap[q]? = some ce
    rw [hT]; exact hcell
  exact ⟨_, st1, .threw q, hrun, hend, Or.inr ⟨q, rfl, E, ce, locs, hx _ hT hW.alike, hcell9, hv, hcl, hW, hsm.mono hc hs, hf⟩⟩
theorem vx_frame {U : State} {k n : Nat} (h : s.sameButNew ({ U with vm := s.vm } : State) locs k n) : s.heap.size ≤ U.heap.size ∧ ∀ q : Nat, q < s.heap.size → (∀ z ∈ locs, z.base ≠ q) → U.heap[q]? = s.heap[q]? := by
  obtain ⟨-, h2, -, -, -, h6⟩ := h
  refine ⟨h2, fun q hq hz => ?_⟩
  obtain ⟨c9, e1, e2, e3, e4⟩ := h6 q _ (Array.getElem?_eq_getElem hq)
  have hs : c9.slots = (s.heap[q]).slots := Array.ext_getElem? fun i => e4 i fun hm => hz _ hm rfl
  have h9 : c9 = s.heap[q] := by
    rw [hs] at e2
    exact e2
  have e5 : U.heap[q]? = some c9 := e1
  rw [e5, h9, Array.getElem?_eq_getElem hq]
/-- the words of a throw but the four that speak of the heap -/
def vx_no (w : Cond) : Bool := decide (w ≠ .isRef (.static Bundle.tN "UNASSIGNED_STACK" Bundle.steD)) && decide (w ≠ .isRef (.static Bundle.tN "SUPPRESSED_SENTINEL" Bundle.listD)) && decide (w ≠ .laysStatic Bundle.tN "UNASSIGNED_STACK" Bundle.steD) && decide (w ≠ .laysStatic Bundle.tN "SUPPRESSED_SENTINEL" Bundle.listD)
def vx_at0 (own : String) (ic : Nat) (X : String) (names : List String) : List Cond := (Bundle.ownAtoms0 own ic X names).filter vx_no
def vx_atS (own : String) (ic : Nat) (X : String) (names : List String) : List Cond := (Bundle.ownAtoms own ic X names).filter vx_no
/-- a word that the tables alone decide, or a good one -/
def vx_ot (w : Cond) : Bool := w.onTables || goodWord w
theorem vx_ot_at {args a' : Array Value} {s U : State} {w : Cond} (hW : s.WarmedH U.vm) (hvm : s.vm = U.vm) (hg : vx_ot w = true) (h : w.before args s = true) : w.before a' U = true := by
  simp only [vx_ot, Bool.or_eq_true] at hg
  rcases hg with hg | hg
  · exact va_tabs hg hvm h
  · exact word_at hW (good_of_word hg) h
/-- a list's words: the good ones out of the method's own list, the others by premises of their own -/
theorem vx_hat {args : Array Value} {s : State} {L B : List Cond} (h1 : ∀ w ∈ L.filter goodWord, w.before args s = true) (h2 : ∀ w ∈ L.filter (fun w => !goodWord w), w ∈ B) (h3 : ∀ w ∈ B, w.before args s = true) : ∀ w ∈ L, w.before args s = true := by
  intro w hw
  by_cases g : goodWord w = true
  · exact h1 w (List.mem_filter.mpr ⟨hw, g⟩)
  · refine h3 w (h2 w (List.mem_filter.mpr ⟨hw, ?_⟩))
    show (!goodWord w) = true
    cases hgw : goodWord w
    · rfl
    · exact absurd hgw g
theorem vx_c {args : Array Value} {s : State} {w : Cond} {B : List Cond} (h : w.before args s = true) (t : ∀ w ∈ B, w.before args s = true) : ∀ w' ∈ w :: B, w'.before args s = true := fun w' h' => (List.mem_cons.mp h').elim (fun e => by rw [e]; exact h) (t w')
theorem vx_n {args : Array Value} {s : State} : ∀ w ∈ ([] : List Cond), w.before args s = true := fun _ h => nomatch h
theorem vx_own {args : Array Value} {s : State} {L : List Cond} (h1 : ∀ w ∈ L.filter vx_no, w.before args s = true)
    (hU : (Cond.isRef (.static Bundle.tN "UNASSIGNED_STACK" Bundle.steD)).before args s = true) (hN : (Cond.isRef (.static Bundle.tN "SUPPRESSED_SENTINEL" Bundle.listD)).before args s = true)
    (lU : (Cond.laysStatic Bundle.tN "UNASSIGNED_STACK" Bundle.steD).before args s = true) (lN : (Cond.laysStatic Bundle.tN "SUPPRESSED_SENTINEL" Bundle.listD).before args s = true) : ∀ w ∈ L, w.before args s = true := by
  intro w hw
  by_cases e1 : w = .isRef (.static Bundle.tN "UNASSIGNED_STACK" Bundle.steD)
  · rw [e1]; exact hU
  · by_cases e2 : w = .isRef (.static Bundle.tN "SUPPRESSED_SENTINEL" Bundle.listD)
    · rw [e2]; exact hN
    · by_cases e3 : w = .laysStatic Bundle.tN "UNASSIGNED_STACK" Bundle.steD
      · rw [e3]; exact lU
      · by_cases e4 : w = .laysStatic Bundle.tN "SUPPRESSED_SENTINEL" Bundle.listD
        · rw [e4]; exact lN
        · exact h1 w (List.mem_filter.mpr ⟨hw, by unfold vx_no; rw [decide_eq_true e1, decide_eq_true e2, decide_eq_true e3, decide_eq_true e4]; rfl⟩)
/-- where a static field lies, its class's statics cell in H -/
def vx_L (C n d : String) (A : Nat → Prop) (U : State) (H : Heap) : Prop := ∃ (c : ClassId) (k : Class) (i : Nat) (f : Field) (a : Nat) (cell : Cell), U.vm.findClass C = some c ∧ U.fieldFound? C n d = some (c, k, i, f) ∧ f.isStatic = true ∧ k.statics = some a ∧ H[a]? = some cell ∧ cell.vm.isStatics = true ∧ cell.cls = c ∧ f.slot < cell.slots.size ∧ k.staticTypes[f.slot]? = some f.type ∧ ¬ A a
theorem vx_L.moved {C n d : String} {A : Nat → Prop} {u U : State} {H : Heap} (hvm : u.vm.Alike U.vm) (h : vx_L C n d A u H) : vx_L C n d A U H := by
  obtain ⟨c, k, i, f, a, cell, h1, h2, h3, h4, h5, h6, h7, h8, h9, h10⟩ := h
  obtain ⟨k', hi', he⟩ := State.fieldFound?_setVm hvm h2
  exact ⟨c, k', i, f, a, cell, by rw [hvm.findClass]; exact h1, hi', h3, by rw [he]; exact h4, h5, h6, h7, h8, by rw [he]; exact h9, h10⟩
theorem vx_L.kept {C n d : String} {A : Nat → Prop} {U : State} {H H1 : Heap} (h : vx_L C n d A U H) (hq : ∀ a : Nat, a < H.size → ¬ A a → H1[a]? = H[a]?) : vx_L C n d A U H1 := by
  obtain ⟨c, k, i, f, a, cell, h1, h2, h3, h4, h5, h6, h7, h8, h9, h10⟩ := h
  exact ⟨c, k, i, f, a, cell, h1, h2, h3, h4, by rw [hq a (Array.getElem?_eq_some_iff.mp h5).1 h10]; exact h5, h6, h7, h8, h9, h10⟩
theorem vx_L.narrow {C n d : String} {A B : Nat → Prop} {U : State} {H : Heap} (h : vx_L C n d A U H) (hAB : ∀ q, B q → A q) : vx_L C n d B U H := by
  obtain ⟨c, k, i, f, a, cell, h1, h2, h3, h4, h5, h6, h7, h8, h9, h10⟩ := h
  exact ⟨c, k, i, f, a, cell, h1, h2, h3, h4, h5, h6, h7, h8, h9, fun z => h10 (hAB _ z)⟩
theorem vx_L.word {C n d : String} {A : Nat → Prop} {s : State} {args : Array Value} (h : vx_L C n d A s s.heap) : (Cond.laysStatic C n d).before args s = true := by
  obtain ⟨c, k, i, f, a, cell, h1, h2, h3, h4, h5, h6, h7, h8, h9, -⟩ := h
  show (Cond.laysStatic C n d).holds args s none s [] = true
  exact Cond.laysStatic_of h1 h2 h3 h4 h5 h6 h7 h8 h9
/-- .. and what it holds: null or some reference -/
def vx_Zq (C n d : String) (A : Nat → Prop) (U : State) (H : Heap) : Prop := va_Zq C n d A U H ∧ vx_L C n d A U H
theorem vx_Zq.moved {C n d : String} {A : Nat → Prop} {u U : State} {H : Heap} (hvm : u.vm.Alike U.vm) (h : vx_Zq C n d A u H) : vx_Zq C n d A U H := ⟨va_Zq.moved hvm h.1, vx_L.moved hvm h.2⟩
theorem vx_Zq.kept {C n d : String} {A : Nat → Prop} {U : State} {H H1 : Heap} (h : vx_Zq C n d A U H) (hq : ∀ a : Nat, a < H.size → ¬ A a → H1[a]? = H[a]?) : vx_Zq C n d A U H1 := ⟨va_Zq.kept h.1 hq, vx_L.kept h.2 hq⟩
theorem vx_Zq.narrow {C n d : String} {A B : Nat → Prop} {U : State} {H : Heap} (h : vx_Zq C n d A U H) (hAB : ∀ q, B q → A q) : vx_Zq C n d B U H := ⟨va_Zq.narrow h.1 hAB, vx_L.narrow h.2 hAB⟩
theorem vx_Zqof {args : Array Value} {s : State} {C n d : String} {A : Nat → Prop} (hl : (Cond.laysStatic C n d).before args s = true) (hini : (Cond.initialized C).before args s = true) (h : (Cond.isRef (.static C n d)).before args s = true) (hA : ∀ a : Nat, a < s.heap.size → ¬ A a) : vx_Zq C n d A s s.heap := by
  refine ⟨va_Zqof hl hini h hA, ?_⟩
  obtain ⟨c, k, i, f, a, cell, h1, h2, h3, h4, h5, h6, h7, h8, h9⟩ := Cond.laysStatic_spec hl
  exact ⟨c, k, i, f, a, cell, h1, h2, h3, h4, h5, h6, h7, h8, h9, hA a (Array.getElem?_eq_some_iff.mp h5).1⟩
theorem vx_isRef {C n d : String} {v : Value} {A : Nat → Prop} {s : State} {args : Array Value} (h : va_Z C n d v A s s.heap) (hv : v.isRef = true) : (Cond.isRef (.static C n d)).before args s = true := by
  obtain ⟨cf, kf, fi, f, a, cell, h1, h2, h3, h4, h5, h6, h7, -⟩ := h
  have he : (Term.static C n d).eval args s none [] s = some v := by
    simp [Term.eval, State.fieldNamed?, h1, h2, h4, h5, h6, h7]
  simp only [Cond.before, Cond.holds, Cond.value, he]
  cases v <;> simp_all [Value.isRef]
theorem vx_isRefq {C n d : String} {A : Nat → Prop} {s : State} {args : Array Value} (h : va_Zq C n d A s s.heap) : (Cond.isRef (.static C n d)).before args s = true := by
  rcases h with h | ⟨t, h⟩
  · exact vx_isRef h rfl
  · exact vx_isRef h rfl
/-- the same frame, seen from here: as if the method were called anew in this heap -/
theorem vx_rebase {T : State} (X : Stand p l e R s m args below meth c T locs cells slots) {R' : Room} (hf : R'.frames ≤ R.frames) (hl : R'.locals ≤ R.locals) (hc : cells + R'.cells ≤ R.cells) (hs : slots + R'.slots ≤ R.slots) :
    Stand p l e R' ((T.setVm s.vm).setFrames (.invoking m args :: below)) m args below meth c T [] 0 0 := by
  have htop : (T.setVm s.vm).topJava?.isSome := X.here.top
  have hF : ((T.setVm s.vm).setFrames (.invoking m args :: below)).frames = .invoking m args :: below := State.frames_setFrames _ (State.cur_lt_of_top htop)
  obtain ⟨g₀, hg0⟩ := Option.isSome_iff_exists.mp htop
  obtain ⟨r, hr⟩ := State.topJava?_eq_some.mp hg0
  have hl9 : e.platform.stackLimits (T.setVm s.vm).me = e.platform.stackLimits s.me := X.limits
  have hb9 : (T.setVm s.vm).me.stackBytes = s.me.stackBytes := X.bytes
  refine ⟨X.admits, X.cas, X.clock, hF, ?_, X.hears, X.method, X.code, X.here, X.tail, X.warmed, ?_, ?_, ?_⟩
  · have h := X.room
    have hU : ((T.setVm s.vm).setFrames (.invoking m args :: below)).localsInUse = s.localsInUse := by
      rw [State.localsInUse_invoking hF (meth := meth) (c := c) X.method X.code, State.localsInUse_invoking X.frames X.method X.code]
    simp only [State.hasRoom, Bool.and_eq_true, decide_eq_true_eq] at h ⊢
    obtain ⟨⟨⟨⟨h1, h2, h3, h4, h5, h6⟩, h7⟩, h8⟩, h9⟩ := h
    rw [X.frames, List.length_cons] at h2 h3
    have q1 := X.heapSize
    have q2 := X.used
    simp only [hF, hU, List.length_cons, State.stackLimits_setFrames, State.stackBytes_setFrames, hl9, hb9]
    refine ⟨⟨⟨⟨by omega, by omega, by omega, by omega, by omega, h6⟩, ?_⟩, ?_⟩, X.book⟩
    · show T.heap.size + R'.cells ≤ e.platform.maxCells
      omega
    · show T.slotsUsed + R'.slots ≤ e.platform.maxSlots
      omega
  · rw [State.stackLimits_setFrames]; rfl
  · rw [State.stackBytes_setFrames]; rfl
  · refine ⟨?_, Nat.le_refl _, Nat.le_refl _, ?_, ?_, fun a c9 h9 => ⟨c9, h9, rfl, rfl, fun _ _ => rfl⟩⟩
    · obtain ⟨t, ht, -⟩ := State.frames_cons hr
      show T.setVm s.vm = { ((T.setVm s.vm).setFrames (.invoking m args :: below)).setFrames (T.setVm s.vm).frames with heap := T.heap, slotsUsed := T.slotsUsed }
      rw [State.setFrames_setFrames, State.setFrames_self ht]
      rfl
    · show T.slotsUsed = T.slotsUsed + ((T.heap.toList.drop T.heap.size).map (·.slots.size)).sum
      rw [List.drop_eq_nil_of_le (Nat.le_of_eq Array.length_toList)]
      rfl
    · show ((T.heap.toList.drop T.heap.size).map (·.slots.size)).sum ≤ 0
      rw [List.drop_eq_nil_of_le (Nat.le_of_eq Array.length_toList)]
      exact Nat.le_refl _
/-- 'throw new E()': new; dup; invokespecial; athrow -/
theorem vx_throw0 {cc : ByteArray} {pc : Nat} (hexec : p.tables.exec = Jvm.exec) (hb : c.code = cc) (hl : l.stackTraces = false) {own cls : String} {names : List String} {ik ic mc ms : Nat} {A : Nat → Prop}
    (hown : s.vm.findClass own = some m.cls) (hcls : Bundle.fit cls = true) (hnames : ∀ n ∈ names, Bundle.fit n = true)
    (hk : (Cond.classLink own ik cls).before args s = true) (hini : (Cond.initialized cls).before args s = true) (hat : ∀ w ∈ vx_at0 own ic cls names, w.before args s = true)
    (hgood : ∀ w ∈ Cond.classLink own ik cls :: Cond.initialized cls :: vx_at0 own ic cls names, vx_ot w = true)
    (hU : vx_Zq Bundle.tN "UNASSIGNED_STACK" Bundle.steD A s s.heap) (hN : vx_Zq Bundle.tN "SUPPRESSED_SENTINEL" Bundle.listD A s s.heap) (hS : va_S A s.heap H locs) (hsize : ls.size = c.maxLocals)
    (d0 : decode cc pc = .ok (.new ik, 3)) (d3 : decode cc (pc + 3) = .ok (.dup, 1)) (d4 : decode cc (pc + 4) = .ok (.invokespecial ic, 3)) (d7 : decode cc (pc + 7) = .ok (.athrow, 1))
    (hout : ∀ x ∈ c.exceptionTable.toList, covers x (pc + 7) = false)
    (hRframes : names.length + 3 < R.frames) (hRlocals : (rest.map fun v => v.category).sum + (13 * (names.length + 1) + 42) ≤ R.locals) (hRcells : cells + 1 ≤ R.cells) (hRslots : slots + 6 ≤ R.slots) (hlocks : meth.locks = false)
    (hx : ∀ t : State, s.vm.Alike t.vm → H.size ≤ t.heap.size → (∀ q : Nat, q < H.size → t.heap[q]? = H[q]?) → XC cls s t)
    (hf : ∀ z ∈ locs, free z.base) (hc : cells + 1 ≤ mc) (hs : slots + 6 ≤ ms) :
    W p l e R s m args below meth c H locs cells slots (vx_MQ below Qc XC args s mc ms free) (F0 m pc ls rest) := by
  intro T hT X
  have htr : e.platform.stackTraces = false := (show e.platform.stackTraces = l.stackTraces by rw [X.admits.platform]).trans hl
  have Y := vx_rebase X (R' := { frames := R.frames, locals := R.locals, cells := 1, slots := 6 }) (Nat.le_refl _) (Nat.le_refl _) hRcells hRslots
  obtain ⟨s', hA⟩ : ∃ z, z = (T.setVm s.vm).setFrames (.invoking m args :: below) := ⟨_, rfl⟩
  rw [← hA] at Y
  have hvm : s'.vm = s.vm := by rw [hA]; rfl
  have hhp : s'.heap = H := by rw [hA]; exact hT
  have hW0 : s.WarmedH s'.vm := by rw [hvm]; exact State.WarmedH.refl s
  have hat' : ∀ w ∈ vx_at0 own ic cls names, w.before args s' = true := fun w hw => vx_ot_at hW0 hvm.symm (hgood w (List.mem_cons_of_mem _ (List.mem_cons_of_mem _ hw))) (hat w hw)
  have hk' : (Cond.classLink own ik cls).before args s' = true := vx_ot_at hW0 hvm.symm (hgood _ List.mem_cons_self) hk
  have hini' : (Cond.initialized cls).before args s' = true := vx_ot_at hW0 hvm.symm (hgood _ (List.mem_cons_of_mem _ List.mem_cons_self)) hini
  have hU' : vx_Zq Bundle.tN "UNASSIGNED_STACK" Bundle.steD A s' s'.heap := by rw [hhp]; exact vx_Zq.moved hW0.alike (hU.kept hS.2.1)
  have hN' : vx_Zq Bundle.tN "SUPPRESSED_SENTINEL" Bundle.listD A s' s'.heap := by rw [hhp]; exact vx_Zq.moved hW0.alike (hN.kept hS.2.1)
  have h : ∀ w ∈ Bundle.ownAtoms0 own ic cls names, w.before args s' = true := vx_own hat' (vx_isRefq hU'.1) (vx_isRefq hN'.1) hU'.2.word hN'.2.word
  have hown' : s'.vm.findClass own = some m.cls := by rw [hvm]; exact hown
  have hins : (Cond.instantiable cls 6).before args s' = true := h _ (by simp [Bundle.ownAtoms0])
  obtain ⟨vm₁, cX, kX, hfX, hkX, -, -, X₁, st1⟩ := Y.newCold hexec (own := own) (C := cls) (index := ik) (n := 6) hown' hk' hins hini'
    (g := F0 m pc ls rest) rfl (by rw [hb]; exact d0) (Nat.le_refl _) (Nat.le_refl _)
  generalize hT1 : (T.setVm vm₁).pushCell { cls := cX, slots := kX.instanceTypes.map defaultValue, vm := .none } = T1 at X₁ st1
  have hcat : (Value.ref T.heap.size).category = 1 := rfl
  have hcellA : T1.heap[T.heap.size]? = some (freshCell cX kX) := by rw [← hT1]; exact State.heap_pushCell_size _ _
  have d3' : decode c.code (pc + 3) = .ok (.dup, 1) := by rw [hb]; exact d3
  obtain ⟨U, hsteps, hrun, hend, hW, hsame, ce, hce, hO⟩ := X₁.ctorThrow0 hexec htr (own := own) (cls := cls) (names := names) (ic := ic) hown' hcls hnames h (fun x hx => nomatch hx) hfX hkX hcellA (by rw [hhp, hT]; exact Nat.le_refl _)
    (g := { method := m, pc := pc + 4, locals := ls, stack := .ref T.heap.size :: .ref T.heap.size :: rest, locked := none }) rfl hsize rfl rfl (rest := rest) rfl
    (by rw [hb]; exact d4) (by rw [hb]; exact d7) hout hRframes (by simp only [List.map_cons, List.sum_cons, hcat]; omega) hlocks
  obtain ⟨f1, f2⟩ := vx_frame hsame
  rw [hhp] at f1 f2
  have hWs : s.WarmedH U.vm := State.WarmedH.trans hW0 hW
  have hcl : s.vm.findClass cls = some ce.cls := by
    have h9 := hO.cls
    rw [hvm] at h9
    exact h9
  have hall : s.sameButNew ({ U with vm := s.vm } : State) locs mc ms := by
    subst hA
    obtain ⟨e1, e2⟩ := hsame
    rw [State.setFrames_setFrames] at e1
    have h2 : (T.setVm s.vm).sameButNew ({ U with vm := s.vm } : State) [] (0 + 1) (0 + 6) := ⟨e1, e2⟩
    have h3 := X.same.trans h2
    rw [List.append_nil] at h3
    exact h3.mono hc hs
  refine ⟨U, ?_, .threw T.heap.size, hrun, hend, Or.inr ⟨T.heap.size, rfl, cls, ce, locs, hx U hWs.alike f1 (fun q hq => f2 q hq (fun z hz => nomatch hz)), hce, hO.vm, hcl, hWs, hall, hf⟩⟩
  refine st1 _ ?_
  show Steps p.tables e below (T1.setTop { method := m, pc := pc + 3, locals := ls, stack := .ref T.heap.size :: rest, locked := none }) _
  jvm_step X₁.here [X₁.here.top, hexec, d3', Value.category]
  exact hsteps
/-- 'throw new E("text")': new; dup; ldc; invokespecial; athrow -/
theorem vx_throwS {cc : ByteArray} {pc : Nat} (hexec : p.tables.exec = Jvm.exec) (hb : c.code = cc) (hl : l.stackTraces = false) {own cls text : String} {names : List String} {ik is ic mc ms sa : Nat} {A : Nat → Prop}
    (hown : s.vm.findClass own = some m.cls) (hcls : Bundle.fit cls = true) (hnames : ∀ n ∈ names, Bundle.fit n = true)
    (hk : (Cond.classLink own ik cls).before args s = true) (hini : (Cond.initialized cls).before args s = true) (hstr : vk_R own is text sa s) (hat : ∀ w ∈ vx_atS own ic cls names, w.before args s = true)
    (hgood : ∀ w ∈ Cond.classLink own ik cls :: Cond.initialized cls :: vx_atS own ic cls names, vx_ot w = true)
    (hU : vx_Zq Bundle.tN "UNASSIGNED_STACK" Bundle.steD A s s.heap) (hN : vx_Zq Bundle.tN "SUPPRESSED_SENTINEL" Bundle.listD A s s.heap) (hS : va_S A s.heap H locs) (hsize : ls.size = c.maxLocals)
    (d0 : decode cc pc = .ok (.new ik, 3)) (d3 : decode cc (pc + 3) = .ok (.dup, 1)) (d4 : decode cc (pc + 4) = .ok (.ldc is, 2)) (d6 : decode cc (pc + 6) = .ok (.invokespecial ic, 3)) (d9 : decode cc (pc + 9) = .ok (.athrow, 1))
    (hout : ∀ x ∈ c.exceptionTable.toList, covers x (pc + 9) = false)
    (hRframes : names.length + 3 < R.frames) (hRlocals : (rest.map fun v => v.category).sum + (13 * (names.length + 1) + 43) ≤ R.locals) (hRcells : cells + 1 ≤ R.cells) (hRslots : slots + 6 ≤ R.slots) (hlocks : meth.locks = false)
    (hx : ∀ t : State, s.vm.Alike t.vm → H.size ≤ t.heap.size → (∀ q : Nat, q < H.size → t.heap[q]? = H[q]?) → XC cls s t)
    (hf : ∀ z ∈ locs, free z.base) (hc : cells + 1 ≤ mc) (hs : slots + 6 ≤ ms) :
    W p l e R s m args below meth c H locs cells slots (vx_MQ below Qc XC args s mc ms free) (F0 m pc ls rest) := by
  intro T hT X
  have htr : e.platform.stackTraces = false := (show e.platform.stackTraces = l.stackTraces by rw [X.admits.platform]).trans hl
  have Y := vx_rebase X (R' := { frames := R.frames, locals := R.locals, cells := 1, slots := 6 }) (Nat.le_refl _) (Nat.le_refl _) hRcells hRslots
  obtain ⟨s', hA⟩ : ∃ z, z = (T.setVm s.vm).setFrames (.invoking m args :: below) := ⟨_, rfl⟩
  rw [← hA] at Y
  have hvm : s'.vm = s.vm := by rw [hA]; rfl
  have hhp : s'.heap = H := by rw [hA]; exact hT
  have hW0 : s.WarmedH s'.vm := by rw [hvm]; exact State.WarmedH.refl s
  have hat' : ∀ w ∈ vx_atS own ic cls names, w.before args s' = true := fun w hw => vx_ot_at hW0 hvm.symm (hgood w (List.mem_cons_of_mem _ (List.mem_cons_of_mem _ hw))) (hat w hw)
  have hk' : (Cond.classLink own ik cls).before args s' = true := vx_ot_at hW0 hvm.symm (hgood _ List.mem_cons_self) hk
  have hini' : (Cond.initialized cls).before args s' = true := vx_ot_at hW0 hvm.symm (hgood _ (List.mem_cons_of_mem _ List.mem_cons_self)) hini
  have hU' : vx_Zq Bundle.tN "UNASSIGNED_STACK" Bundle.steD A s' s'.heap := by rw [hhp]; exact vx_Zq.moved hW0.alike (hU.kept hS.2.1)
  have hN' : vx_Zq Bundle.tN "SUPPRESSED_SENTINEL" Bundle.listD A s' s'.heap := by rw [hhp]; exact vx_Zq.moved hW0.alike (hN.kept hS.2.1)
  have h : ∀ w ∈ Bundle.ownAtoms own ic cls names, w.before args s' = true := vx_own hat' (vx_isRefq hU'.1) (vx_isRefq hN'.1) hU'.2.word hN'.2.word
  have hown' : s'.vm.findClass own = some m.cls := by rw [hvm]; exact hown
  have hins : (Cond.instantiable cls 6).before args s' = true := h _ (by simp [Bundle.ownAtoms])
  obtain ⟨vm₁, cX, kX, hfX, hkX, -, -, X₁, st1⟩ := Y.newCold hexec (own := own) (C := cls) (index := ik) (n := 6) hown' hk' hins hini'
    (g := F0 m pc ls rest) rfl (by rw [hb]; exact d0) (Nat.le_refl _) (Nat.le_refl _)
  generalize hT1 : (T.setVm vm₁).pushCell { cls := cX, slots := kX.instanceTypes.map defaultValue, vm := .none } = T1 at X₁ st1
  have hcat : (Value.ref T.heap.size).category = 1 := rfl
  have hcellA : T1.heap[T.heap.size]? = some (freshCell cX kX) := by rw [← hT1]; exact State.heap_pushCell_size _ _
  have d3' : decode c.code (pc + 3) = .ok (.dup, 1) := by rw [hb]; exact d3
  have d4' : decode c.code (pc + 4) = .ok (.ldc is, 2) := by rw [hb]; exact d4
  have hstr' : vk_R own is text sa s' := vk_R.warm hW0 hstr
  obtain ⟨U, hsteps, hrun, hend, hW, hsame, ce, hce, hO⟩ := X₁.ctorThrowS hexec htr (own := own) (cls := cls) (names := names) (ic := ic) hown' hcls hnames h (fun x hx => nomatch hx) hfX hkX hcellA (by rw [hhp, hT]; exact Nat.le_refl _) (msg := .ref sa) rfl
    (g := { method := m, pc := pc + 6, locals := ls, stack := .ref sa :: .ref T.heap.size :: .ref T.heap.size :: rest, locked := none }) rfl hsize rfl rfl (rest := rest) rfl
    (by rw [hb]; exact d6) (by rw [hb]; exact d9) hout hRframes (by simp only [List.map_cons, List.sum_cons, hcat]; omega) hlocks
  obtain ⟨f1, f2⟩ := vx_frame hsame
  rw [hhp] at f1 f2
  have hWs : s.WarmedH U.vm := State.WarmedH.trans hW0 hW
  have hcl : s.vm.findClass cls = some ce.cls := by
    have h9 := hO.cls
    rw [hvm] at h9
    exact h9
  have hall : s.sameButNew ({ U with vm := s.vm } : State) locs mc ms := by
    subst hA
    obtain ⟨e1, e2⟩ := hsame
    rw [State.setFrames_setFrames] at e1
    have h2 : (T.setVm s.vm).sameButNew ({ U with vm := s.vm } : State) [] (0 + 1) (0 + 6) := ⟨e1, e2⟩
    have h3 := X.same.trans h2
    rw [List.append_nil] at h3
    exact h3.mono hc hs
  refine ⟨U, ?_, .threw T.heap.size, hrun, hend, Or.inr ⟨T.heap.size, rfl, cls, ce, locs, hx U hWs.alike f1 (fun q hq => f2 q hq (fun z hz => nomatch hz)), hce, hO.vm, hcl, hWs, hall, hf⟩⟩
  refine st1 _ ?_
  show Steps p.tables e below (T1.setTop { method := m, pc := pc + 3, locals := ls, stack := .ref T.heap.size :: rest, locked := none }) _
  jvm_step X₁.here [X₁.here.top, hexec, d3', Value.category]
  exact X₁.ldcString hexec (own := own) (text := text) (index := is) (a := sa) hown' hstr'.1 hstr'.2
    (g := { method := m, pc := pc + 4, locals := ls, stack := .ref T.heap.size :: .ref T.heap.size :: rest, locked := none }) rfl d4' _ hsteps
/-- 'throw new E("text")', the text by a wide index -/
theorem vx_throwSW {cc : ByteArray} {pc : Nat} (hexec : p.tables.exec = Jvm.exec) (hb : c.code = cc) (hl : l.stackTraces = false) {own cls text : String} {names : List String} {ik is ic mc ms sa : Nat} {A : Nat → Prop}
    (hown : s.vm.findClass own = some m.cls) (hcls : Bundle.fit cls = true) (hnames : ∀ n ∈ names, Bundle.fit n = true)
    (hk : (Cond.classLink own ik cls).before args s = true) (hini : (Cond.initialized cls).before args s = true) (hstr : vk_R own is text sa s) (hat : ∀ w ∈ vx_atS own ic cls names, w.before args s = true)
    (hgood : ∀ w ∈ Cond.classLink own ik cls :: Cond.initialized cls :: vx_atS own ic cls names, vx_ot w = true)
    (hU : vx_Zq Bundle.tN "UNASSIGNED_STACK" Bundle.steD A s s.heap) (hN : vx_Zq Bundle.tN "SUPPRESSED_SENTINEL" Bundle.listD A s s.heap) (hS : va_S A s.heap H locs) (hsize : ls.size = c.maxLocals)
    (d0 : decode cc pc = .ok (.new ik, 3)) (d3 : decode cc (pc + 3) = .ok (.dup, 1)) (d4 : decode cc (pc + 4) = .ok (.ldc_w is, 3)) (d7 : decode cc (pc + 7) = .ok (.invokespecial ic, 3)) (d10 : decode cc (pc + 10) = .ok (.athrow, 1))
    (hout : ∀ x ∈ c.exceptionTable.toList, covers x (pc + 10) = false)
    (hRframes : names.length + 3 < R.frames) (hRlocals : (rest.map fun v => v.category).sum + (13 * (names.length + 1) + 43) ≤ R.locals) (hRcells : cells + 1 ≤ R.cells) (hRslots : slots + 6 ≤ R.slots) (hlocks : meth.locks = false)
    (hx : ∀ t : State, s.vm.Alike t.vm → H.size ≤ t.heap.size → (∀ q : Nat, q < H.size → t.heap[q]? = H[q]?) → XC cls s t)
    (hf : ∀ z ∈ locs, free z.base) (hc : cells + 1 ≤ mc) (hs : slots + 6 ≤ ms) :
    W p l e R s m args below meth c H locs cells slots (vx_MQ below Qc XC args s mc ms free) (F0 m pc ls rest) := by
  intro T hT X
  have htr : e.platform.stackTraces = false := (show e.platform.stackTraces = l.stackTraces by rw [X.admits.platform]).trans hl
  have Y := vx_rebase X (R' := { frames := R.frames, locals := R.locals, cells := 1, slots := 6 }) (Nat.le_refl _) (Nat.le_refl _) hRcells hRslots
  obtain ⟨s', hA⟩ : ∃ z, z = (T.setVm s.vm).setFrames (.invoking m args :: below) := ⟨_, rfl⟩
  rw [← hA] at Y
  have hvm : s'.vm = s.vm := by rw [hA]; rfl
  have hhp : s'.heap = H := by rw [hA]; exact hT
  have hW0 : s.WarmedH s'.vm := by rw [hvm]; exact State.WarmedH.refl s
  have hat' : ∀ w ∈ vx_atS own ic cls names, w.before args s' = true := fun w hw => vx_ot_at hW0 hvm.symm (hgood w (List.mem_cons_of_mem _ (List.mem_cons_of_mem _ hw))) (hat w hw)
  have hk' : (Cond.classLink own ik cls).before args s' = true := vx_ot_at hW0 hvm.symm (hgood _ List.mem_cons_self) hk
  have hini' : (Cond.initialized cls).before args s' = true := vx_ot_at hW0 hvm.symm (hgood _ (List.mem_cons_of_mem _ List.mem_cons_self)) hini
  have hU' : vx_Zq Bundle.tN "UNASSIGNED_STACK" Bundle.steD A s' s'.heap := by rw [hhp]; exact vx_Zq.moved hW0.alike (hU.kept hS.2.1)
  have hN' : vx_Zq Bundle.tN "SUPPRESSED_SENTINEL" Bundle.listD A s' s'.heap := by rw [hhp]; exact vx_Zq.moved hW0.alike (hN.kept hS.2.1)
  have h : ∀ w ∈ Bundle.ownAtoms own ic cls names, w.before args s' = true := vx_own hat' (vx_isRefq hU'.1) (vx_isRefq hN'.1) hU'.2.word hN'.2.word
  have hown' : s'.vm.findClass own = some m.cls := by rw [hvm]; exact hown
  have hins : (Cond.instantiable cls 6).before args s' = true := h _ (by simp [Bundle.ownAtoms])
  obtain ⟨vm₁, cX, kX, hfX, hkX, -, -, X₁, st1⟩ := Y.newCold hexec (own := own) (C := cls) (index := ik) (n := 6) hown' hk' hins hini'
    (g := F0 m pc ls rest) rfl (by rw [hb]; exact d0) (Nat.le_refl _) (Nat.le_refl _)
  generalize hT1 : (T.setVm vm₁).pushCell { cls := cX, slots := kX.instanceTypes.map defaultValue, vm := .none } = T1 at X₁ st1
  have hcat : (Value.ref T.heap.size).category = 1 := rfl
  have hcellA : T1.heap[T.heap.size]? = some (freshCell cX kX) := by rw [← hT1]; exact State.heap_pushCell_size _ _
  have d3' : decode c.code (pc + 3) = .ok (.dup, 1) := by rw [hb]; exact d3
  have d4' : decode c.code (pc + 4) = .ok (.ldc_w is, 3) := by rw [hb]; exact d4
  have hstr' : vk_R own is text sa s' := vk_R.warm hW0 hstr
  obtain ⟨U, hsteps, hrun, hend, hW, hsame, ce, hce, hO⟩ := X₁.ctorThrowS hexec htr (own := own) (cls := cls) (names := names) (ic := ic) hown' hcls hnames h (fun x hx => nomatch hx) hfX hkX hcellA (by rw [hhp, hT]; exact Nat.le_refl _) (msg := .ref sa) rfl
    (g := { method := m, pc := pc + 7, locals := ls, stack := .ref sa :: .ref T.heap.size :: .ref T.heap.size :: rest, locked := none }) rfl hsize rfl rfl (rest := rest) rfl
    (by rw [hb]; exact d7) (by rw [hb]; exact d10) hout hRframes (by simp only [List.map_cons, List.sum_cons, hcat]; omega) hlocks
  obtain ⟨f1, f2⟩ := vx_frame hsame
  rw [hhp] at f1 f2
  have hWs : s.WarmedH U.vm := State.WarmedH.trans hW0 hW
  have hcl : s.vm.findClass cls = some ce.cls := by
    have h9 := hO.cls
    rw [hvm] at h9
    exact h9
  have hall : s.sameButNew ({ U with vm := s.vm } : State) locs mc ms := by
    subst hA
    obtain ⟨e1, e2⟩ := hsame
    rw [State.setFrames_setFrames] at e1
    have h2 : (T.setVm s.vm).sameButNew ({ U with vm := s.vm } : State) [] (0 + 1) (0 + 6) := ⟨e1, e2⟩
    have h3 := X.same.trans h2
    rw [List.append_nil] at h3
    exact h3.mono hc hs
  refine ⟨U, ?_, .threw T.heap.size, hrun, hend, Or.inr ⟨T.heap.size, rfl, cls, ce, locs, hx U hWs.alike f1 (fun q hq => f2 q hq (fun z hz => nomatch hz)), hce, hO.vm, hcl, hWs, hall, hf⟩⟩
  refine st1 _ ?_
  show Steps p.tables e below (T1.setTop { method := m, pc := pc + 3, locals := ls, stack := .ref T.heap.size :: rest, locked := none }) _
  jvm_step X₁.here [X₁.here.top, hexec, d3', Value.category]
  exact X₁.ldcStringW hexec (own := own) (text := text) (index := is) (a := sa) hown' hstr'.1 hstr'.2
    (g := { method := m, pc := pc + 4, locals := ls, stack := .ref T.heap.size :: .ref T.heap.size :: rest, locked := none }) rfl d4' _ hsteps
end Ends
section Bodies
variable {l : Launch}
theorem vx_ofW {y : MethodName} {ws ws' : List Cond} {rm : Room} {Pc : Array Value → State → Prop} {Qc : Array Value → State → Outcome → State → Prop} {XC : String → State → State → Prop} {mc ms : Nat} {free : Addr → Prop} {cc : ByteArray} {maxL : Nat} {ret : Option FieldType}
    (hy : plainName y.cls = true) (hw : ws = Cond.code y cc maxL ret :: ws')
    (body : ∀ p e s m args below meth c s₁, BodyLoose p l y (headSpec ws rm) cc maxL ret e s m args below meth c s₁ → c.maxLocals = maxL → (∀ x ∈ c.exceptionTable.toList, False) → Pc args s →
      W p l e (headSpec ws rm).room s m args below meth c s.heap [] 0 0 (vx_MQ below Qc XC args s mc ms free) (entryFrame m args maxL)) : vx_Met l y ws rm Pc Qc XC mc ms free := by
  refine MetFree.of_bodyS (code := cc) (maxLocals := maxL) (ret := ret) hy ?_ ?_
  · intro args s m h hn
    obtain ⟨meth, c, h1, h2, h3, h4, h5, h6, -, -⟩ := Cond.code_spec hn (atoms_spec (ws := ws) h _ (by rw [hw]; exact List.mem_cons_self))
    exact ⟨meth, c, h1, h2, h3, h4, h5, h6⟩
  · intro p e s m args below meth c s₁ B hml hP _
    have hh0 : s₁.heap = s.heap := by rw [B.state]; rfl
    have ht : ∀ x ∈ c.exceptionTable.toList, False := by
      obtain ⟨meth9, c9, h1, h2, -, -, -, -, h7, -⟩ := Cond.code_spec B.named (atoms_spec (ws := ws) B.pre _ (by rw [hw]; exact List.mem_cons_self))
      cases Option.some.inj (h1.symm.trans B.method)
      cases Option.some.inj (h2.symm.trans (Stand.of_body B).code)
      intro x hx
      rw [Array.isEmpty_iff.mp h7] at hx
      cases hx
    obtain ⟨t, a1, o, b1, b2, b3⟩ := body p e s m args below meth c s₁ B hml ht hP s₁ hh0 (Stand.of_body B)
    exact ⟨t, o, a1, b1, b2, b3⟩
/-- the table of a body with handlers -/
theorem vx_table {p : Program} {x y : MethodName} {S : Spec} {cc bytes : ByteArray} {maxL maxL' : Nat} {ret ret' : Option FieldType} {e : Env} {s s₁ : State} {m : MethodId} {args : Array Value} {below : List Frame} {meth : Method} {c : Code} {hh : List (Nat × Nat × Nat × Nat)}
    (B : BodyLoose p l y S cc maxL ret e s m args below meth c s₁) (h : (Cond.codeWith y bytes maxL' ret' hh).before args s = true) : c.exceptionTable.toList = tableOf hh := by
  obtain ⟨m9, meth9, c9, hn9, h1, h2, -, -, h6, -⟩ := Cond.codeWith_spec h
  cases Option.some.inj (hn9.symm.trans B.named)
  cases Option.some.inj (h1.symm.trans B.method)
  cases Option.some.inj (h2.symm.trans (Stand.of_body B).code)
  rw [← h6, table_eq]
end Bodies
end VXA
/-! ===== END ===== -/
/-! ===== BEGIN a static call of a method with an exception table ===== -/
section VXS
variable {p : Program} {l : Launch} {e : Env} {R : Room} {s : State} {m : MethodId} {args : Array Value} {below : List Frame} {meth : Method} {c : Code} {T : State} {H : Heap} {locs : List Loc} {cells slots : Nat}
abbrev vx_CSW (R : Room) (s : State) (args : Array Value) (own : String) (index : Nat) (y : MethodName) (bytes : ByteArray) (maxL : Nat) (ret : Option FieldType) (hh : List (Nat × Nat × Nat × Nat)) (ws : List Cond) (rm : Room) (mc ms n : Nat) : Prop :=
  (rm.cells = mc ∧ rm.slots = ms ∧ rm.frames + 1 ≤ R.frames ∧ 8 + (maxL + 11) + rm.locals ≤ R.locals ∧ (∀ w ∈ ws, ∀ (a' : Array Value) (U : State), s.WarmedH U.vm → w.before a' U = true) ∧ Cond.codeWith y bytes maxL ret hh ∈ ws) ∧
  (Cond.codeWith y bytes maxL ret hh).before args s = true ∧ (Cond.initialized y.cls).before args s = true ∧ (y.cls ≠ "java/lang/invoke/MethodHandle" ∧ y.cls ≠ "java/lang/invoke/VarHandle") ∧
  (∀ sig, parseMethodDescriptor y.desc = some sig → n = sig.parameters.length) ∧ (Cond.methodLink own index y).before args s = true ∧ (Cond.static y).before args s = true
theorem vx_cwSW {own : String} {index maxL mc ms : Nat} {y : MethodName} {bytes : ByteArray} {ret : Option FieldType} {hh : List (Nat × Nat × Nat × Nat)} {Ts ws ws' : List Cond} {rm : Room} (n : Nat) (ht : ∀ w ∈ Ts, w.before args s = true) (hT : GoodIn Ts (va_wsS own index y ws)) (hw : ws = Cond.codeWith y bytes maxL ret hh :: ws') (hrc : rm.cells = mc) (hrs : rm.slots = ms)
    (hd : y.cls ≠ "java/lang/invoke/MethodHandle" ∧ y.cls ≠ "java/lang/invoke/VarHandle" ∧ (parseMethodDescriptor y.desc).map (fun d => d.parameters.length) = some n) (hR : rm.frames + 1 ≤ R.frames ∧ 8 + (maxL + 11) + rm.locals ≤ R.locals) :
    vx_CSW R s args own index y bytes maxL ret hh ws rm mc ms n := by
  have ok : ∀ w ∈ va_wsS own index y ws, w.before args s = true := fun w h => ht w (hT w h).1
  have hG : GoodIn Ts ws := fun w h => hT w (by unfold va_wsS; exact List.mem_append_right _ h)
  have hc : Cond.codeWith y bytes maxL ret hh ∈ ws := by rw [hw]; exact List.mem_cons_self
  refine ⟨⟨hrc, hrs, hR.1, hR.2, pay_in ht hG, hc⟩, ht _ (hG _ hc).1, ok _ (by simp [va_wsS]), ⟨hd.1, hd.2.1⟩, fun sig h => ?_, ok _ (by simp [va_wsS]), ok _ (by simp [va_wsS])⟩
  have h2 := hd.2.2
  rw [h] at h2
  exact (Option.some.inj h2).symm
theorem vx_callSW (X : Stand p l e R s m args below meth c T locs cells slots) (hexec : p.tables.exec = Jvm.exec) {own : String} {index : Nat} {y : MethodName} {bytes : ByteArray} {maxL : Nat} {ret : Option FieldType} {hh : List (Nat × Nat × Nat × Nat)}
    (hown : s.vm.findClass own = some m.cls) (hlink : (Cond.methodLink own index y).before args s = true) (hstat : (Cond.static y).before args s = true) (hinit : (Cond.initialized y.cls).before args s = true)
    (hcode : (Cond.codeWith y bytes maxL ret hh).before args s = true) (hy : y.cls ≠ "java/lang/invoke/MethodHandle" ∧ y.cls ≠ "java/lang/invoke/VarHandle")
    {W9 : Nat} {Pre : Pt → Array Value → Prop} {Post : Pt → Array Value → Option Value → Pt → Prop} (hK : Back l R p e below s args y 3 W9 Pre Post)
    {g : JFrame} (hg : g.method = m) (hsize : g.locals.size = c.maxLocals) {argsL rest : List Value} (hlen : ∀ sig, parseMethodDescriptor y.desc = some sig → argsL.length = sig.parameters.length)
    (hstack : g.stack = argsL.reverse ++ rest) (hW : 2 * g.monitorRoom + (rest.map fun v => v.category).sum ≤ W9) (hdg : decode c.code g.pc = .ok (.invokestatic index, 3))
    (hpre : ∀ vm₁, s.WarmedH vm₁ → Pre ⟨T.setVm vm₁, locs, cells, slots⟩ argsL.toArray) :
    ∃ (v : Option Value) (vm₁ : Vm) (B : Pt), s.WarmedH vm₁ ∧ Stand p l e R s m args below meth c B.U B.locs B.cells B.slots ∧ Post ⟨T.setVm vm₁, locs, cells, slots⟩ argsL.toArray v B ∧
      ∀ target, Steps p.tables e below (B.U.setTop { g with pc := g.pc + 3, stack := v.toList ++ rest }) target → Steps p.tables e below (T.setTop g) target := by
  obtain ⟨mk, methM, cM, hnamed, hmethM, -, -, -, -, -, -, hsigM⟩ := Cond.codeWith_spec hcode
  have hstatic : methM.isStatic = true := Cond.static_spec hnamed hmethM hstat
  obtain ⟨kP, hkP, -⟩ := className_of_methodNamed hnamed
  have hinitP : kP.init = .initialized := Cond.initialized_spec (findClass_of_methodNamed hnamed) hkP hinit
  obtain ⟨vm₁, X₁, hstep₁⟩ := X.invokestatic hexec hown hlink hnamed hmethM hstatic hkP hinitP hy (g := g) hg (argsL := argsL) (rest := rest) (hlen _ hsigM) hstack hdg
  obtain ⟨v, B, X', hpost, hsteps⟩ := hK m meth c ⟨T.setVm vm₁, locs, cells, slots⟩ { g with stack := rest } (.invokestatic index) mk argsL.toArray X₁ hg hsize hdg hW (X₁.named hnamed) (hpre vm₁ X₁.warmed)
  exact ⟨v, vm₁, B, X₁.warmed, X', hpost, fun target h => hstep₁ _ fun acts => by rw [doInvoke_state]; exact hsteps.trans h⟩
theorem vx_runSW {y : MethodName} {bytes cc : ByteArray} {maxL nL mc ms n index : Nat} {ret : Option FieldType} {hh : List (Nat × Nat × Nat × Nat)} {ws : List Cond} {rm : Room} {Pc : Array Value → State → Prop} {Qc : Array Value → State → Outcome → State → Prop} {free : Addr → Prop} {Ts : List Cond} {own : String} {As rest : List Value} {g : JFrame}
    (S : CallFix p m c cc nL s args Ts own) (hM : Met l y ws rm Pc Qc mc ms free) (cw : vx_CSW R s args own index y bytes maxL ret hh ws rm mc ms n) (hp : PreS s H Pc As)
    (hg : g.method = m) (hn : As.length = n) (hsize : g.locals.size = nL) (hstack : g.stack = As.reverse ++ rest) (hW : 2 * g.monitorRoom + (rest.map fun v => v.category).sum ≤ 8) (hdg : decode cc g.pc = .ok (.invokestatic index, 3)) (hf : cells + mc ≤ R.cells ∧ slots + ms ≤ R.slots) :
    va_Run p l e R s m args below meth c H locs cells slots mc ms g rest (Qc As.toArray) (free) := by
  obtain ⟨⟨hrc, hrs, hfr, hlo, hws, hcw⟩, hcode, hini, hy, hlen, hl, hstt⟩ := cw
  have hK : Back l R p e below s args y 3 8 (PreOf R mc ms Pc) (PostOf Qc mc ms free) := va_backW (hh := hh) (bytes := bytes) (maxL := maxL) (ret := ret) hM hp.1 hrc hrs hfr hlo hws hcw (fun a' U hW => word_at hW (Or.inl (by first | rfl | simp [Cond.onTables, Cond.keeps, Cond.steady])) hini)
  obtain ⟨hx, hb, hml, ho, -⟩ := S
  intro T hT X
  obtain ⟨v, vm₁, ⟨U', l2, c2, s2⟩, hW₁, X', ⟨g', mk, t, L, e1, e2, hq, h1, hL, h2, h3⟩, st⟩ := vx_callSW X hx (hh := hh) (bytes := bytes) (maxL := maxL) (ret := ret) ho hl hstt hini hcode hy hK hg (hsize.trans hml.symm) (argsL := As) (rest := rest) (fun sig h => hn.trans (hlen sig h)) hstack hW (by rw [hb]; exact hdg)
    (fun vm₁ hW₁ => ⟨hf.1, hf.2, hp.2 (T.setVm vm₁) hT hW₁⟩)
  dsimp only [Pt.U, Pt.locs, Pt.cells, Pt.slots] at X' e1 e2 h1 h2 h3 st
  subst h1; subst h2; subst h3
  exact ⟨v, (T.setVm vm₁).calling g' mk As.toArray, t, U', L, hT, X', hL, e1, e2, hq, st⟩
/-- not caught here, past rows that name other classes: it goes on to the caller -/
theorem vx_outP {p : Program} {l : Launch} {e : Env} {R : Room} {s : State} {m : MethodId} {args : Array Value} {below : List Frame} {meth : Method} {c : Code} {H : Heap} {locs : List Loc} {cells slots : Nat} {free : Addr → Prop} {ls : Array Slot} {rest : List Value} {Qc : Array Value → State → Outcome → State → Prop} {XC : String → State → State → Prop}
    {pc : Nat} {own E : String} {ce : Cell} {q : Addr} {mc ms : Nat} (hown : s.vm.findClass own = some m.cls) (hlocks : meth.locks = false)
    (hpass : ∀ z ∈ c.exceptionTable.toList, covers z pc = false ∨ (z.catchType ≠ 0 ∧ ∃ nm : String, (Cond.classLink own z.catchType nm).before args s = true ∧ va_Nc E nm s)) (hcell : H[q]? = some ce) (hv : ce.vm = .none) (hcl : s.vm.findClass E = some ce.cls)
    (hx : ∀ t : State, t.heap = H → s.vm.Alike t.vm → XC E s t) (hf : ∀ z ∈ locs, free z.base) (hc : cells ≤ mc) (hs : slots ≤ ms) :
    vx_W p l e R s m args below meth c H locs cells slots (vx_MQ below Qc XC args s mc ms free) (F0 m pc ls rest) q := by
  intro T hT X
  have hpl : e.platform.magicAccessors = ({} : Platform).magicAccessors := by rw [X.admits.platform]
  obtain ⟨vm', hW', X', st⟩ := X.outThrough hlocks q (g := F0 m pc ls rest) rfl rfl rfl (cell := ce) (by rw [hT]; exact hcell) (by rw [hv]; rfl)
    (by obtain ⟨k9, h9, -⟩ := Vm.findClass_spec hcl; exact ⟨k9, h9⟩) (fun z hz => by
      rcases hpass z hz with h | ⟨hz0, nm, hl1, hn1⟩
      · exact Or.inl h
      · obtain ⟨c6, hc6, hcl6⟩ := Cond.classLink_spec hown hl1 e.platform hpl
        obtain ⟨a8, b8, h1, h2, h3⟩ := hn1
        cases Option.some.inj (h1.symm.trans hcl)
        cases Option.some.inj (h2.symm.trans hc6)
        exact Or.inr ⟨hz0, _, hcl6, h3⟩)
  obtain ⟨g₀, hfr⟩ := X'.frames_eq
  have hcell9 : ((T.setVm vm').setFrames (.throwing q :: below)).heap[q]? = some ce := by
    show T.heap[q]? = some ce
    rw [hT]; exact hcell
  have hend : Ended ((T.setVm vm').setFrames (.throwing q :: below)) below (.threw q) := State.frames_setFrames _ (State.cur_lt_of_frames hfr)
  refine ⟨(T.setVm vm').setFrames (.throwing q :: below), ?_, .threw q, X'.here.running, hend, Or.inr ⟨q, rfl, E, ce, locs, hx _ hT (X'.ends _).1.alike, hcell9, hv, hcl, (X'.ends _).1, (X'.ends _).2.mono hc hs, hf⟩⟩
  rw [X.pushThrowing_eq]
  exact st
/-- a thing of a world lies in the heap -/
theorem vx_lt {D : va_G} {cl : List vw_C} {ws : va_W} {H1 : Heap} (h : va_P D cl ws H1) {k : Nat} {q : Nat × va_E} (hk : ws[k]? = some q) : q.1 < H1.size := (h k q hk).lt
end VXS
/-! ===== END ===== -/
/-! ===== BEGIN methods with a table of their own: called by a name, returning or throwing ===== -/
section VXH
/-! vx_backW, vx_callVX, vx_callSX, vx_callVW, vx_runVW, vx_runVX, vx_runSX, vx_ofWH follow the same proofs as their sisters above (Free/Laws.lean, Shelf42/LK1.lean); vx_outP calls Shelf42/NT130.lean (outThrough). -/
section
variable {l : Launch} {R : Room} {p : Program} {e : Env} {below : List Frame} {s : State} {sargs : Array Value} {y : MethodName} {len W9 : Nat}
theorem vx_backW {ws : List Cond} {rm : Room} {Pc : Array Value → State → Prop} {Qc : Array Value → State → Outcome → State → Prop} {XC : String → State → State → Prop} {mc ms : Nat} {free : Addr → Prop} {bytes : ByteArray} {maxL : Nat} {ret : Option FieldType} {hh : List (Nat × Nat × Nat × Nat)}
    (hM : vx_Met l y ws rm Pc Qc XC mc ms free) (hblind : FrameBlind Pc) (hrc : rm.cells = mc) (hrs : rm.slots = ms)
    (hframes : rm.frames + 1 ≤ R.frames) (hlocals : W9 + (maxL + 11) + rm.locals ≤ R.locals)
    (hws : ∀ w ∈ ws, ∀ a' U, s.WarmedH U.vm → w.before a' U = true) (hcode : Cond.codeWith y bytes maxL ret hh ∈ ws) (hinit : ∀ a' U, s.WarmedH U.vm → (Cond.initialized y.cls).before a' U = true) :
    vx_Back l R p e below s sargs y len W9 (PreOf R mc ms Pc) (PostOf Qc mc ms free) (vx_Post XC mc ms free) := by
  intro m meth c A g ig mk a X hg hsize hdg hW hn hp
  have h1 : (headSpec ws rm).pre.before a A.U = true := atoms_intro fun w hw => hws w hw _ _ X.warmed
  have h2 : (Cond.codeWith y bytes maxL ret hh).before a A.U = true := hws _ hcode _ _ X.warmed
  have h3 : (Cond.initialized y.cls).before a A.U = true := hinit _ _ X.warmed
  have h4 : A.cells + (headSpec ws rm).room.cells ≤ R.cells := by rw [show (headSpec ws rm).room.cells = mc from hrc]; exact hp.1
  have h5 : A.slots + (headSpec ws rm).room.slots ≤ R.slots := by rw [show (headSpec ws rm).room.slots = ms from hrs]; exact hp.2.1
  have hPc : Pc a (A.U.calling g mk a) := hblind _ _ _ _ hp.2.2
  obtain ⟨U, Ls, c0, s0⟩ := A
  dsimp only [Pt.U, Pt.locs, Pt.cells, Pt.slots] at h1 h2 h3 h4 h5 X hn hPc ⊢
  obtain ⟨m9, methY, cY, hn9, hmY, hcY, -, hlY, -⟩ := Cond.codeWith_spec h2
  cases Option.some.inj (hn9.symm.trans hn)
  obtain ⟨kY, hkY, -⟩ := className_of_methodNamed hn
  have hinitY : kY.init = .initialized := Cond.initialized_spec (findClass_of_methodNamed hn) hkY h3
  have h : At U g.method c below := by rw [hg]; exact X.here
  have hlocals9 : W9 + (maxL + 11) + (headSpec ws rm).room.locals ≤ R.locals := hlocals
  have happ : (headSpec ws rm).appliesLoose y e.platform (U.calling g mk a) = true :=
    Spec.appliesLoose_calling (g := g) h hdg hn hkY hinitY
      (X.room_calling (g := g) (R' := (headSpec ws rm).room) hsize hmY hcY hframes (by rw [hlY]; omega) h4 h5) h1
  obtain ⟨mid, hmid⟩ := h.above
  have hfr : (U.setTop g).frames = (.java g :: mid) ++ below := by rw [State.frames_setTop' g h.top, hmid]; rfl
  obtain ⟨o, s₂, hsteps, -, hend, hq⟩ := Steps.callFree hM p X.admits X.cas X.clock (acts := []) hfr happ hPc trivial
  have hq' : vx_Q Qc XC mc ms free a (U.calling g mk a) o s₂ := hq
  rw [State.frames_setTop' g h.top] at hend
  obtain ⟨g₀, hg0⟩ := Option.isSome_iff_exists.mp h.top
  obtain ⟨r, hr⟩ := State.topJava?_eq_some.mp hg0
  have hr' : (({ U with heap := s₂.heap, slotsUsed := s₂.slotsUsed } : State).setVm s₂.vm).frames = .java g₀ :: r := hr
  rcases hq' with ⟨hqc, L, hfe, hL⟩ | ⟨q, rfl, E, ce, L, hx, hce, hcv, hcl, hW₂, hsm, hL⟩
  · obtain ⟨⟨v, rfl⟩, hW₂, e2, q2, q3, q4, q5, q6⟩ := id hfe
    have e3 : s₂ = ({ (U.calling g mk a).setFrames s₂.frames with heap := s₂.heap, slotsUsed := s₂.slotsUsed } : State).setVm s₂.vm := by
      have : s₂ = ({ s₂ with vm := (U.calling g mk a).vm } : State).setVm s₂.vm := rfl
      rw [e2] at this
      exact this
    obtain ⟨c₂, i₂, len₂, hc₂, hd₂, hf₂⟩ := hend
    have hW' : U.WarmedH s₂.vm := hW₂
    have hcc : c₂ = c := by
      have h1 : s₂.code? g.method = U.code? g.method := by
        rw [State.code?_eq, State.code?_eq, hW'.alike.method?]
      exact Option.some.inj (hc₂.symm.trans (h1.trans h.code))
    subst hcc
    have hlen : len₂ = len := by rw [hdg] at hd₂; cases hd₂; rfl
    subst hlen
    have hs₂ : s₂ = (({ U with heap := s₂.heap, slotsUsed := s₂.slotsUsed } : State).setVm s₂.vm).setTop { g with pc := g.pc + len₂, stack := v.toList ++ g.stack } := by
      refine e3.trans ?_
      rw [hf₂, State.calling_eq h.top, State.setFrames_setFrames, State.setTop_of_frames _ hr', hr]
      rfl
    have hsame : U.sameButNew ({ U with heap := s₂.heap, slotsUsed := s₂.slotsUsed } : State) L mc ms := by
      refine ⟨?_, q2, q3, q4, q5, q6⟩
      obtain ⟨t, ht, -⟩ := State.frames_cons hr
      show ({ U with heap := s₂.heap, slotsUsed := s₂.slotsUsed } : State) = { U.setFrames U.frames with heap := s₂.heap, slotsUsed := s₂.slotsUsed }
      rw [State.setFrames_self ht]
    subst hg
    refine Or.inl ⟨v, ⟨(({ U with heap := s₂.heap, slotsUsed := s₂.slotsUsed } : State).setVm s₂.vm), Ls ++ L, c0 + mc, s0 + ms⟩,
      ⟨X.admits, X.cas, X.clock, X.frames, X.room, X.hears, X.method, X.code, (X.here.setHeapUsed s₂.heap s₂.slotsUsed).setVm hW'.alike, X.tail, State.WarmedH.trans X.warmed hW', X.limits, X.bytes, X.same.trans (hsame.setVm s.vm)⟩,
      ⟨g, mk, s₂, L, rfl, rfl, hqc, rfl, hL, rfl, rfl⟩, ?_⟩
    show Steps p.tables e below _ ((({ U with heap := s₂.heap, slotsUsed := s₂.slotsUsed } : State).setVm s₂.vm).setTop { g with pc := g.pc + len₂, stack := v.toList ++ g.stack })
    rw [← hs₂]
    exact hsteps
  · obtain ⟨e2, q2, q3, q4, q5, q6⟩ := id hsm
    have e3 : s₂ = ({ (U.calling g mk a).setFrames s₂.frames with heap := s₂.heap, slotsUsed := s₂.slotsUsed } : State).setVm s₂.vm := by
      have : s₂ = ({ s₂ with vm := (U.calling g mk a).vm } : State).setVm s₂.vm := rfl
      rw [e2] at this
      exact this
    have hf₂ : s₂.frames = .throwing q :: .java g :: U.frames.tail := hend
    have hW' : U.WarmedH s₂.vm := hW₂
    have hs₂ : s₂ = ((({ U with heap := s₂.heap, slotsUsed := s₂.slotsUsed } : State).setVm s₂.vm).setTop g).pushFrame (.throwing q) := by
      refine e3.trans ?_
      rw [hf₂, State.calling_eq h.top, State.setFrames_setFrames, State.pushFrame, State.frames_setTop _ hr', State.setTop_of_frames _ hr', State.setFrames_setFrames, hr]
      rfl
    have hsame : U.sameButNew ({ U with heap := s₂.heap, slotsUsed := s₂.slotsUsed } : State) L mc ms := by
      refine ⟨?_, q2, q3, q4, q5, q6⟩
      obtain ⟨t, ht, -⟩ := State.frames_cons hr
      show ({ U with heap := s₂.heap, slotsUsed := s₂.slotsUsed } : State) = { U.setFrames U.frames with heap := s₂.heap, slotsUsed := s₂.slotsUsed }
      rw [State.setFrames_self ht]
    subst hg
    refine Or.inr ⟨q, ⟨(({ U with heap := s₂.heap, slotsUsed := s₂.slotsUsed } : State).setVm s₂.vm), Ls ++ L, c0 + mc, s0 + ms⟩,
      ⟨X.admits, X.cas, X.clock, X.frames, X.room, X.hears, X.method, X.code, (X.here.setHeapUsed s₂.heap s₂.slotsUsed).setVm hW'.alike, X.tail, State.WarmedH.trans X.warmed hW', X.limits, X.bytes, X.same.trans (hsame.setVm s.vm)⟩,
      ⟨g, mk, s₂, L, E, ce, rfl, rfl, hx, hce, hcv, hcl, rfl, hL, rfl, rfl⟩, ?_⟩
    show Steps p.tables e below _ (((({ U with heap := s₂.heap, slotsUsed := s₂.slotsUsed } : State).setVm s₂.vm).setTop g).pushFrame (.throwing q))
    rw [← hs₂]
    exact hsteps
end
variable {p : Program} {l : Launch} {e : Env} {R : Room} {s : State} {m : MethodId} {args : Array Value} {below : List Frame} {meth : Method} {c : Code} {T : State} {H : Heap} {locs : List Loc} {cells slots : Nat}
theorem vx_callVX (X : Stand p l e R s m args below meth c T locs cells slots) (hexec : p.tables.exec = Jvm.exec) {own C : String} {index : Nat} {y : MethodName} {bytes : ByteArray} {maxL : Nat} {ret : Option FieldType} {hh : List (Nat × Nat × Nat × Nat)}
    (hown : s.vm.findClass own = some m.cls) (hlink : (Cond.methodLink own index y).before args s = true) (hinst : (Cond.instanceMethod y).before args s = true) (hsel : (Cond.selects C y y).before args s = true)
    (hcode : (Cond.codeWith y bytes maxL ret hh).before args s = true) (hy : y.cls ≠ "java/lang/invoke/MethodHandle" ∧ y.cls ≠ "java/lang/invoke/VarHandle")
    {W9 : Nat} {Pre : Pt → Array Value → Prop} {Post : Pt → Array Value → Option Value → Pt → Prop} {PostX : Pt → Array Value → Addr → Pt → Prop} (hK : vx_Back l R p e below s args y 3 W9 Pre Post PostX)
    {b : Addr} {cellB : Cell} (hcell : T.heap[b]? = some cellB) (hobj : cellB.vm.isStatics = false) (hcls : s.vm.findClass C = some cellB.cls)
    {g : JFrame} (hg : g.method = m) (hsize : g.locals.size = c.maxLocals) {argsL rest : List Value} (hlen : ∀ sig, parseMethodDescriptor y.desc = some sig → argsL.length = sig.parameters.length)
    (hstack : g.stack = argsL.reverse ++ .ref b :: rest) (hW : 2 * g.monitorRoom + (rest.map fun v => v.category).sum ≤ W9) (hdg : decode c.code g.pc = .ok (.invokevirtual index, 3))
    (hpre : ∀ vm₁, s.WarmedH vm₁ → Pre ⟨T.setVm vm₁, locs, cells, slots⟩ (Value.ref b :: argsL).toArray) :
    (∃ (v : Option Value) (vm₁ : Vm) (B : Pt), s.WarmedH vm₁ ∧ Stand p l e R s m args below meth c B.U B.locs B.cells B.slots ∧ Post ⟨T.setVm vm₁, locs, cells, slots⟩ (Value.ref b :: argsL).toArray v B ∧
      ∀ target, Steps p.tables e below (B.U.setTop { g with pc := g.pc + 3, stack := v.toList ++ rest }) target → Steps p.tables e below (T.setTop g) target) ∨
    (∃ (q : Addr) (vm₁ : Vm) (B : Pt), s.WarmedH vm₁ ∧ Stand p l e R s m args below meth c B.U B.locs B.cells B.slots ∧ PostX ⟨T.setVm vm₁, locs, cells, slots⟩ (Value.ref b :: argsL).toArray q B ∧
      Steps p.tables e below (T.setTop g) ((B.U.setTop { g with stack := rest }).pushFrame (.throwing q))) := by
  obtain ⟨mk, methM, hnamed, hmethM, hstM, habM⟩ := Cond.instanceMethod_spec hinst
  obtain ⟨m8, methM', cM, hn8, hmethM', -, -, -, -, -, -, hsigM⟩ := Cond.codeWith_spec hcode
  cases Option.some.inj (hn8.symm.trans hnamed)
  cases hmethM.symm.trans hmethM'
  obtain ⟨c2, r2, m2, q1, q2, q3, q4, kP, hkP, hkPi⟩ := Cond.selects_spec hsel
  cases hcls.symm.trans q1
  cases (State.methodFound?_of_named hnamed hy).symm.trans q2
  cases hnamed.symm.trans q3
  have hselP : selectMethod e.platform s.vm cellB.cls mk = .method mk := by rw [Launch.admits_selectMethod X.admits]; exact q4
  obtain ⟨vm₁, X₁, hstep₁⟩ := X.invokevirtual hexec hown hlink hnamed hmethM hstM hkP hkPi hy (a := b) (cell := cellB) hcell
    (fun z h => by rw [h] at hobj; cases hobj) hselP hmethM habM hkP hkPi (g := g) hg (argsL := argsL) (rest := rest) (hlen _ hsigM) hstack hdg
  rcases hK m meth c ⟨T.setVm vm₁, locs, cells, slots⟩ { g with stack := rest } (.invokevirtual index) mk (Value.ref b :: argsL).toArray X₁ hg hsize hdg hW (X₁.named hnamed) (hpre vm₁ X₁.warmed) with ⟨v, B, X', hpost, hsteps⟩ | ⟨q, B, X', hpost, hsteps⟩
  · exact Or.inl ⟨v, vm₁, B, X₁.warmed, X', hpost, fun target h => hstep₁ _ fun acts => by rw [doInvoke_state]; exact hsteps.trans h⟩
  · exact Or.inr ⟨q, vm₁, B, X₁.warmed, X', hpost, hstep₁ _ fun acts => by rw [doInvoke_state]; exact hsteps⟩
theorem vx_callSX (X : Stand p l e R s m args below meth c T locs cells slots) (hexec : p.tables.exec = Jvm.exec) {own : String} {index : Nat} {y : MethodName} {bytes : ByteArray} {maxL : Nat} {ret : Option FieldType} {hh : List (Nat × Nat × Nat × Nat)}
    (hown : s.vm.findClass own = some m.cls) (hlink : (Cond.methodLink own index y).before args s = true) (hstat : (Cond.static y).before args s = true) (hinit : (Cond.initialized y.cls).before args s = true)
    (hcode : (Cond.codeWith y bytes maxL ret hh).before args s = true) (hy : y.cls ≠ "java/lang/invoke/MethodHandle" ∧ y.cls ≠ "java/lang/invoke/VarHandle")
    {W9 : Nat} {Pre : Pt → Array Value → Prop} {Post : Pt → Array Value → Option Value → Pt → Prop} {PostX : Pt → Array Value → Addr → Pt → Prop} (hK : vx_Back l R p e below s args y 3 W9 Pre Post PostX)
    {g : JFrame} (hg : g.method = m) (hsize : g.locals.size = c.maxLocals) {argsL rest : List Value} (hlen : ∀ sig, parseMethodDescriptor y.desc = some sig → argsL.length = sig.parameters.length)
    (hstack : g.stack = argsL.reverse ++ rest) (hW : 2 * g.monitorRoom + (rest.map fun v => v.category).sum ≤ W9) (hdg : decode c.code g.pc = .ok (.invokestatic index, 3))
    (hpre : ∀ vm₁, s.WarmedH vm₁ → Pre ⟨T.setVm vm₁, locs, cells, slots⟩ argsL.toArray) :
    (∃ (v : Option Value) (vm₁ : Vm) (B : Pt), s.WarmedH vm₁ ∧ Stand p l e R s m args below meth c B.U B.locs B.cells B.slots ∧ Post ⟨T.setVm vm₁, locs, cells, slots⟩ argsL.toArray v B ∧
      ∀ target, Steps p.tables e below (B.U.setTop { g with pc := g.pc + 3, stack := v.toList ++ rest }) target → Steps p.tables e below (T.setTop g) target) ∨
    (∃ (q : Addr) (vm₁ : Vm) (B : Pt), s.WarmedH vm₁ ∧ Stand p l e R s m args below meth c B.U B.locs B.cells B.slots ∧ PostX ⟨T.setVm vm₁, locs, cells, slots⟩ argsL.toArray q B ∧
      Steps p.tables e below (T.setTop g) ((B.U.setTop { g with stack := rest }).pushFrame (.throwing q))) := by
  obtain ⟨mk, methM, cM, hnamed, hmethM, -, -, -, -, -, -, hsigM⟩ := Cond.codeWith_spec hcode
  have hstatic : methM.isStatic = true := Cond.static_spec hnamed hmethM hstat
  obtain ⟨kP, hkP, -⟩ := className_of_methodNamed hnamed
  have hinitP : kP.init = .initialized := Cond.initialized_spec (findClass_of_methodNamed hnamed) hkP hinit
  obtain ⟨vm₁, X₁, hstep₁⟩ := X.invokestatic hexec hown hlink hnamed hmethM hstatic hkP hinitP hy (g := g) hg (argsL := argsL) (rest := rest) (hlen _ hsigM) hstack hdg
  rcases hK m meth c ⟨T.setVm vm₁, locs, cells, slots⟩ { g with stack := rest } (.invokestatic index) mk argsL.toArray X₁ hg hsize hdg hW (X₁.named hnamed) (hpre vm₁ X₁.warmed) with ⟨v, B, X', hpost, hsteps⟩ | ⟨q, B, X', hpost, hsteps⟩
  · exact Or.inl ⟨v, vm₁, B, X₁.warmed, X', hpost, fun target h => hstep₁ _ fun acts => by rw [doInvoke_state]; exact hsteps.trans h⟩
  · exact Or.inr ⟨q, vm₁, B, X₁.warmed, X', hpost, hstep₁ _ fun acts => by rw [doInvoke_state]; exact hsteps⟩
theorem vx_callVW (X : Stand p l e R s m args below meth c T locs cells slots) (hexec : p.tables.exec = Jvm.exec) {own C : String} {index : Nat} {y : MethodName} {bytes : ByteArray} {maxL : Nat} {ret : Option FieldType} {hh : List (Nat × Nat × Nat × Nat)}
    (hown : s.vm.findClass own = some m.cls) (hlink : (Cond.methodLink own index y).before args s = true) (hinst : (Cond.instanceMethod y).before args s = true) (hsel : (Cond.selects C y y).before args s = true)
    (hcode : (Cond.codeWith y bytes maxL ret hh).before args s = true) (hy : y.cls ≠ "java/lang/invoke/MethodHandle" ∧ y.cls ≠ "java/lang/invoke/VarHandle")
    {W9 : Nat} {Pre : Pt → Array Value → Prop} {Post : Pt → Array Value → Option Value → Pt → Prop} (hK : Back l R p e below s args y 3 W9 Pre Post)
    {b : Addr} {cellB : Cell} (hcell : T.heap[b]? = some cellB) (hobj : cellB.vm.isStatics = false) (hcls : s.vm.findClass C = some cellB.cls)
    {g : JFrame} (hg : g.method = m) (hsize : g.locals.size = c.maxLocals) {argsL rest : List Value} (hlen : ∀ sig, parseMethodDescriptor y.desc = some sig → argsL.length = sig.parameters.length)
    (hstack : g.stack = argsL.reverse ++ .ref b :: rest) (hW : 2 * g.monitorRoom + (rest.map fun v => v.category).sum ≤ W9) (hdg : decode c.code g.pc = .ok (.invokevirtual index, 3))
    (hpre : ∀ vm₁, s.WarmedH vm₁ → Pre ⟨T.setVm vm₁, locs, cells, slots⟩ (Value.ref b :: argsL).toArray) :
    ∃ (v : Option Value) (vm₁ : Vm) (B : Pt), s.WarmedH vm₁ ∧ Stand p l e R s m args below meth c B.U B.locs B.cells B.slots ∧ Post ⟨T.setVm vm₁, locs, cells, slots⟩ (Value.ref b :: argsL).toArray v B ∧
      ∀ target, Steps p.tables e below (B.U.setTop { g with pc := g.pc + 3, stack := v.toList ++ rest }) target → Steps p.tables e below (T.setTop g) target := by
  obtain ⟨mk, methM, hnamed, hmethM, hstM, habM⟩ := Cond.instanceMethod_spec hinst
  obtain ⟨m8, methM', cM, hn8, hmethM', -, -, -, -, -, -, hsigM⟩ := Cond.codeWith_spec hcode
  cases Option.some.inj (hn8.symm.trans hnamed)
  cases hmethM.symm.trans hmethM'
  obtain ⟨c2, r2, m2, q1, q2, q3, q4, kP, hkP, hkPi⟩ := Cond.selects_spec hsel
  cases hcls.symm.trans q1
  cases (State.methodFound?_of_named hnamed hy).symm.trans q2
  cases hnamed.symm.trans q3
  have hselP : selectMethod e.platform s.vm cellB.cls mk = .method mk := by rw [Launch.admits_selectMethod X.admits]; exact q4
  obtain ⟨vm₁, X₁, hstep₁⟩ := X.invokevirtual hexec hown hlink hnamed hmethM hstM hkP hkPi hy (a := b) (cell := cellB) hcell
    (fun z h => by rw [h] at hobj; cases hobj) hselP hmethM habM hkP hkPi (g := g) hg (argsL := argsL) (rest := rest) (hlen _ hsigM) hstack hdg
  obtain ⟨v, B, X', hpost, hsteps⟩ := hK m meth c ⟨T.setVm vm₁, locs, cells, slots⟩ { g with stack := rest } (.invokevirtual index) mk (Value.ref b :: argsL).toArray X₁ hg hsize hdg hW (X₁.named hnamed) (hpre vm₁ X₁.warmed)
  exact ⟨v, vm₁, B, X₁.warmed, X', hpost, fun target h => hstep₁ _ fun acts => by rw [doInvoke_state]; exact hsteps.trans h⟩
abbrev vx_CVW (R : Room) (s : State) (args : Array Value) (own C : String) (index : Nat) (y : MethodName) (bytes : ByteArray) (maxL : Nat) (ret : Option FieldType) (hh : List (Nat × Nat × Nat × Nat)) (ws : List Cond) (rm : Room) (mc ms n : Nat) : Prop :=
  (rm.cells = mc ∧ rm.slots = ms ∧ rm.frames + 1 ≤ R.frames ∧ 8 + (maxL + 11) + rm.locals ≤ R.locals ∧ (∀ w ∈ ws, ∀ (a' : Array Value) (U : State), s.WarmedH U.vm → w.before a' U = true) ∧ Cond.codeWith y bytes maxL ret hh ∈ ws) ∧
  (Cond.codeWith y bytes maxL ret hh).before args s = true ∧ (Cond.initialized y.cls).before args s = true ∧ (y.cls ≠ "java/lang/invoke/MethodHandle" ∧ y.cls ≠ "java/lang/invoke/VarHandle") ∧
  (∀ sig, parseMethodDescriptor y.desc = some sig → n = sig.parameters.length) ∧ (Cond.methodLink own index y).before args s = true ∧ (Cond.instanceMethod y).before args s = true ∧ (Cond.selects C y y).before args s = true
theorem vx_cwVW {own C : String} {index maxL mc ms : Nat} {y : MethodName} {bytes : ByteArray} {ret : Option FieldType} {hh : List (Nat × Nat × Nat × Nat)} {Ts ws ws' : List Cond} {rm : Room} (n : Nat) (ht : ∀ w ∈ Ts, w.before args s = true) (hT : GoodIn Ts (wsV own index C y ws)) (hw : ws = Cond.codeWith y bytes maxL ret hh :: ws') (hrc : rm.cells = mc) (hrs : rm.slots = ms)
    (hd : y.cls = C ∧ y.cls ≠ "java/lang/invoke/MethodHandle" ∧ y.cls ≠ "java/lang/invoke/VarHandle" ∧ (parseMethodDescriptor y.desc).map (fun d => d.parameters.length) = some n) (hR : rm.frames + 1 ≤ R.frames ∧ 8 + (maxL + 11) + rm.locals ≤ R.locals) :
    vx_CVW R s args own C index y bytes maxL ret hh ws rm mc ms n := by
  obtain ⟨hC, hd⟩ := hd
  subst hC
  have ok : ∀ w ∈ wsV own index y.cls y ws, w.before args s = true := fun w h => ht w (hT w h).1
  have hG : GoodIn Ts ws := fun w h => hT w (by unfold wsV; exact List.mem_append_right _ h)
  have hc : Cond.codeWith y bytes maxL ret hh ∈ ws := by rw [hw]; exact List.mem_cons_self
  refine ⟨⟨hrc, hrs, hR.1, hR.2, pay_in ht hG, hc⟩, ht _ (hG _ hc).1, ok _ (by simp [wsV]), ⟨hd.1, hd.2.1⟩, fun sig h => ?_, ok _ (by simp [wsV]), ok _ (by simp [wsV]), ok _ (by simp [wsV])⟩
  have h2 := hd.2.2
  rw [h] at h2
  exact (Option.some.inj h2).symm
theorem vx_runVW {y : MethodName} {bytes cc : ByteArray} {maxL nL mc ms n index : Nat} {ret : Option FieldType} {hh : List (Nat × Nat × Nat × Nat)} {ws : List Cond} {rm : Room} {Pc : Array Value → State → Prop} {Qc : Array Value → State → Outcome → State → Prop} {free : Addr → Prop} {Ts : List Cond} {own C : String} {b : Addr} {As rest : List Value} {g : JFrame}
    (S : CallFix p m c cc nL s args Ts own) (hM : Met l y ws rm Pc Qc mc ms free) (cw : vx_CVW R s args own C index y bytes maxL ret hh ws rm mc ms n) (hp : PreV s H C b Pc As)
    (hg : g.method = m) (hn : As.length = n) (hsize : g.locals.size = nL) (hstack : g.stack = As.reverse ++ .ref b :: rest) (hW : 2 * g.monitorRoom + (rest.map fun v => v.category).sum ≤ 8) (hdg : decode cc g.pc = .ok (.invokevirtual index, 3)) (hf : cells + mc ≤ R.cells ∧ slots + ms ≤ R.slots) :
    va_Run p l e R s m args below meth c H locs cells slots mc ms g rest (Qc (Value.ref b :: As).toArray) free := by
  obtain ⟨⟨hrc, hrs, hfr, hlo, hws, hcw⟩, hcode, hini, hy, hlen, hl, hin, hse⟩ := cw
  have hK : Back l R p e below s args y 3 8 (PreOf R mc ms Pc) (PostOf Qc mc ms free) := va_backW (hh := hh) (bytes := bytes) (maxL := maxL) (ret := ret) hM hp.1 hrc hrs hfr hlo hws hcw (fun a' U hW => word_at hW (Or.inl (by first | rfl | simp [Cond.onTables, Cond.keeps, Cond.steady])) hini)
  obtain ⟨hx, hb, hml, ho, -⟩ := S
  obtain ⟨-, ⟨cellB, hcB, hoB, hclB⟩, hPc⟩ := hp
  intro T hT X
  obtain ⟨v, vm₁, ⟨U', l2, c2, s2⟩, hW₁, X', ⟨g', mk, t, L, e1, e2, hq, h1, hL, h2, h3⟩, st⟩ := vx_callVW X hx (C := C) (hh := hh) (bytes := bytes) (maxL := maxL) (ret := ret) ho hl hin hse hcode hy hK (by rw [hT]; exact hcB) hoB hclB hg (hsize.trans hml.symm) (argsL := As) (rest := rest) (fun sig h => hn.trans (hlen sig h)) hstack hW (by rw [hb]; exact hdg)
    (fun vm₁ hW₁ => ⟨hf.1, hf.2, hPc (T.setVm vm₁) hT hW₁⟩)
  dsimp only [Pt.U, Pt.locs, Pt.cells, Pt.slots] at X' e1 e2 h1 h2 h3 st
  subst h1; subst h2; subst h3
  exact ⟨v, (T.setVm vm₁).calling g' mk (Value.ref b :: As).toArray, t, U', L, hT, X', hL, e1, e2, hq, st⟩
section
variable {y : MethodName} {bytes cc : ByteArray} {maxL nL mc ms n index : Nat} {ret : Option FieldType} {ws : List Cond} {rm : Room} {Pc : Array Value → State → Prop} {Qc : Array Value → State → Outcome → State → Prop} {XC : String → State → State → Prop} {free : Addr → Prop} {Ts : List Cond} {own C : String} {b : Addr} {As rest : List Value} {g : JFrame}
theorem vx_runVX {hh : List (Nat × Nat × Nat × Nat)} (S : CallFix p m c cc nL s args Ts own) (hM : vx_Met l y ws rm Pc Qc XC mc ms free) (cw : vx_CVW R s args own C index y bytes maxL ret hh ws rm mc ms n) (hp : PreV s H C b Pc As)
    (hg : g.method = m) (hn : As.length = n) (hsize : g.locals.size = nL) (hstack : g.stack = As.reverse ++ .ref b :: rest) (hW : 2 * g.monitorRoom + (rest.map fun v => v.category).sum ≤ 8) (hdg : decode cc g.pc = .ok (.invokevirtual index, 3)) (hf : cells + mc ≤ R.cells ∧ slots + ms ≤ R.slots) :
    vx_Run p l e R s m args below meth c H locs cells slots mc ms g rest (Qc (Value.ref b :: As).toArray) XC free := by
  obtain ⟨⟨hrc, hrs, hfr, hlo, hws, hcw⟩, hcode, hini, hy, hlen, hl, hin, hse⟩ := cw
  have hK : vx_Back l R p e below s args y 3 8 (PreOf R mc ms Pc) (PostOf Qc mc ms free) (vx_Post XC mc ms free) := vx_backW (hh := hh) (bytes := bytes) (maxL := maxL) (ret := ret) hM hp.1 hrc hrs hfr hlo hws hcw (fun a' U hW => word_at hW (Or.inl (by first | rfl | simp [Cond.onTables, Cond.keeps, Cond.steady])) hini)
  obtain ⟨hx, hb, hml, ho, -⟩ := S
  obtain ⟨-, ⟨cellB, hcB, hoB, hclB⟩, hPc⟩ := hp
  intro T hT X
  rcases vx_callVX X hx (C := C) (hh := hh) (bytes := bytes) (maxL := maxL) (ret := ret) ho hl hin hse hcode hy hK (by rw [hT]; exact hcB) hoB hclB hg (hsize.trans hml.symm) (argsL := As) (rest := rest) (fun sig h => hn.trans (hlen sig h)) hstack hW (by rw [hb]; exact hdg)
    (fun vm₁ hW₁ => ⟨hf.1, hf.2, hPc (T.setVm vm₁) hT hW₁⟩) with ⟨v, vm₁, ⟨U', l2, c2, s2⟩, hW₁, X', ⟨g', mk, t, L, e1, e2, hq, h1, hL, h2, h3⟩, st⟩ | ⟨q, vm₁, ⟨U', l2, c2, s2⟩, hW₁, X', ⟨g', mk, t, L, E, ce, e1, e2, hq, hce, hcv, hcl, h1, hL, h2, h3⟩, st⟩
  · dsimp only [Pt.U, Pt.locs, Pt.cells, Pt.slots] at X' e1 e2 h1 h2 h3 st
    subst h1; subst h2; subst h3
    exact Or.inl ⟨v, (T.setVm vm₁).calling g' mk (Value.ref b :: As).toArray, t, U', L, hT, X', hL, e1, e2, hq, st⟩
  · dsimp only [Pt.U, Pt.locs, Pt.cells, Pt.slots] at X' e1 e2 h1 h2 h3 st hcl
    subst h1; subst h2; subst h3
    exact Or.inr ⟨q, (T.setVm vm₁).calling g' mk (Value.ref b :: As).toArray, t, U', L, E, ce, hT, X', hL, e1, e2, hq, hce, hcv, vx_cls hW₁ hcl, st⟩
theorem vx_runSX {hh : List (Nat × Nat × Nat × Nat)} (S : CallFix p m c cc nL s args Ts own) (hM : vx_Met l y ws rm Pc Qc XC mc ms free) (cw : vx_CSW R s args own index y bytes maxL ret hh ws rm mc ms n) (hp : PreS s H Pc As)
    (hg : g.method = m) (hn : As.length = n) (hsize : g.locals.size = nL) (hstack : g.stack = As.reverse ++ rest) (hW : 2 * g.monitorRoom + (rest.map fun v => v.category).sum ≤ 8) (hdg : decode cc g.pc = .ok (.invokestatic index, 3)) (hf : cells + mc ≤ R.cells ∧ slots + ms ≤ R.slots) :
    vx_Run p l e R s m args below meth c H locs cells slots mc ms g rest (Qc As.toArray) XC free := by
  obtain ⟨⟨hrc, hrs, hfr, hlo, hws, hcw⟩, hcode, hini, hy, hlen, hl, hstt⟩ := cw
  have hK : vx_Back l R p e below s args y 3 8 (PreOf R mc ms Pc) (PostOf Qc mc ms free) (vx_Post XC mc ms free) := vx_backW (hh := hh) (bytes := bytes) (maxL := maxL) (ret := ret) hM hp.1 hrc hrs hfr hlo hws hcw (fun a' U hW => word_at hW (Or.inl (by first | rfl | simp [Cond.onTables, Cond.keeps, Cond.steady])) hini)
  obtain ⟨hx, hb, hml, ho, -⟩ := S
  intro T hT X
  rcases vx_callSX X hx (hh := hh) (bytes := bytes) (maxL := maxL) (ret := ret) ho hl hstt hini hcode hy hK hg (hsize.trans hml.symm) (argsL := As) (rest := rest) (fun sig h => hn.trans (hlen sig h)) hstack hW (by rw [hb]; exact hdg)
    (fun vm₁ hW₁ => ⟨hf.1, hf.2, hp.2 (T.setVm vm₁) hT hW₁⟩) with ⟨v, vm₁, ⟨U', l2, c2, s2⟩, hW₁, X', ⟨g', mk, t, L, e1, e2, hq, h1, hL, h2, h3⟩, st⟩ | ⟨q, vm₁, ⟨U', l2, c2, s2⟩, hW₁, X', ⟨g', mk, t, L, E, ce, e1, e2, hq, hce, hcv, hcl, h1, hL, h2, h3⟩, st⟩
  · dsimp only [Pt.U, Pt.locs, Pt.cells, Pt.slots] at X' e1 e2 h1 h2 h3 st
    subst h1; subst h2; subst h3
    exact Or.inl ⟨v, (T.setVm vm₁).calling g' mk As.toArray, t, U', L, hT, X', hL, e1, e2, hq, st⟩
  · dsimp only [Pt.U, Pt.locs, Pt.cells, Pt.slots] at X' e1 e2 h1 h2 h3 st hcl
    subst h1; subst h2; subst h3
    exact Or.inr ⟨q, (T.setVm vm₁).calling g' mk As.toArray, t, U', L, E, ce, hT, X', hL, e1, e2, hq, hce, hcv, vx_cls hW₁ hcl, st⟩
end
end VXH
theorem vx_ofWH {l : Launch} {y : MethodName} {ws ws' : List Cond} {rm : Room} {Pc : Array Value → State → Prop} {Qc : Array Value → State → Outcome → State → Prop} {XC : String → State → State → Prop} {mc ms : Nat} {free : Addr → Prop} {cc : ByteArray} {maxL : Nat} {ret : Option FieldType} {hh : List (Nat × Nat × Nat × Nat)}
    (hy : plainName y.cls = true) (hw : ws = Cond.codeWith y cc maxL ret hh :: ws')
    (body : ∀ p e s m args below meth c s₁, BodyLoose p l y (headSpec ws rm) cc maxL ret e s m args below meth c s₁ → c.maxLocals = maxL → Pc args s →
      W p l e (headSpec ws rm).room s m args below meth c s.heap [] 0 0 (vx_MQ below Qc XC args s mc ms free) (entryFrame m args maxL)) : vx_Met l y ws rm Pc Qc XC mc ms free := by
  refine MetFree.of_bodyS (code := cc) (maxLocals := maxL) (ret := ret) hy ?_ ?_
  · intro args s m h hn
    obtain ⟨m9, meth, c, hn9, h1, h2, h3, h4, -, h5, h6, -⟩ := Cond.codeWith_spec (atoms_spec (ws := ws) h _ (by rw [hw]; exact List.mem_cons_self))
    cases hn.symm.trans hn9
    exact ⟨meth, c, h1, h2, h3, h4, h5, h6⟩
  · intro p e s m args below meth c s₁ B hml hP _
    have hh0 : s₁.heap = s.heap := by rw [B.state]; rfl
    obtain ⟨t, a1, o, b1, b2, b3⟩ := body p e s m args below meth c s₁ B hml hP s₁ hh0 (Stand.of_body B)
    exact ⟨t, o, a1, b1, b2, b3⟩
/-! ===== END ===== -/
end
section
/-! ===== BEGIN printed: names, fields, word lists, decode rows ===== -/
def RX0 : String := "SquaringClock$Euclid"
def TX0 : u_T := fun k => match k with
  | 0 => ("SquaringClock$Euclid", "divisor", "J", false)
  | 1 => ("SquaringClock$Euclid", "first", "J", false)
  | _ => ("SquaringClock$Euclid", "second", "J", false)
def tyX0 : Nat → FieldType := fun k => match k with
  | 0 => .long
  | 1 => .long
  | _ => .long
abbrev wsX00 : List Cond := u_ws RX0 TX0 3
theorem nmX0 : ∀ a, a < 3 → ∀ b, b < 3 → a ≠ b → (TX0 a).2.1 ≠ (TX0 b).2.1 := by decide +kernel
theorem tyX0_ok : ∀ k, k < 3 → parseFieldDescriptor (TX0 k).2.2.1 = some (tyX0 k) := by decide +kernel
abbrev cX0_init : ByteArray := prog_2_method_1_code
def yX0_init : MethodName := ⟨RX0, "<init>", "()V"⟩
abbrev cX0_find : ByteArray := prog_2_method_2_code
def yX0_find : MethodName := ⟨RX0, "find", "(JJ)V"⟩
def RX1 : String := "SquaringClock$Form"
def TX1 : u_T := fun k => match k with
  | 0 => ("SquaringClock$Form", "a", "J", false)
  | 1 => ("SquaringClock$Form", "b", "J", false)
  | _ => ("SquaringClock$Form", "c", "J", false)
def tyX1 : Nat → FieldType := fun k => match k with
  | 0 => .long
  | 1 => .long
  | _ => .long
abbrev wsX10 : List Cond := u_ws RX1 TX1 3
theorem nmX1 : ∀ a, a < 3 → ∀ b, b < 3 → a ≠ b → (TX1 a).2.1 ≠ (TX1 b).2.1 := by decide +kernel
theorem tyX1_ok : ∀ k, k < 3 → parseFieldDescriptor (TX1 k).2.2.1 = some (tyX1 k) := by decide +kernel
abbrev cX1_init : ByteArray := prog_3_method_1_code
def yX1_init : MethodName := ⟨RX1, "<init>", "()V"⟩
abbrev cX1_become : ByteArray := prog_3_method_2_code
def yX1_become : MethodName := ⟨RX1, "become", "(LSquaringClock$Form;)V"⟩
abbrev cX1_isSame : ByteArray := prog_3_method_3_code
def yX1_isSame : MethodName := ⟨RX1, "isSame", "(LSquaringClock$Form;)Z"⟩
abbrev cX1_isReduced : ByteArray := prog_3_method_4_code
def yX1_isReduced : MethodName := ⟨RX1, "isReduced", "()Z"⟩
abbrev cX1_part : ByteArray := prog_3_method_5_code
def yX1_part : MethodName := ⟨RX1, "part", "(I)J"⟩
abbrev cX1_swapEnds : ByteArray := prog_3_method_6_code
def yX1_swapEnds : MethodName := ⟨RX1, "swapEnds", "()V"⟩
def RX2 : String := "SquaringClock$Forms"
def TX2 : u_T := fun k => match k with
  | 0 => ("SquaringClock$Forms", "d", "I", false)
  | 1 => ("SquaringClock$Forms", "unit", "LSquaringClock$Form;", true)
  | 2 => ("SquaringClock$Forms", "generator", "LSquaringClock$Form;", true)
  | 3 => ("SquaringClock$Forms", "euclid", "LSquaringClock$Euclid;", true)
  | 4 => ("SquaringClock$Forms", "left", "LSquaringClock$Form;", true)
  | 5 => ("SquaringClock$Forms", "right", "LSquaringClock$Form;", true)
  | 6 => ("SquaringClock$Forms", "base", "LSquaringClock$Form;", true)
  | 7 => ("SquaringClock$Forms", "sofar", "LSquaringClock$Form;", true)
  | 8 => ("SquaringClock$Forms", "one", "LSquaringClock$Form;", true)
  | _ => ("SquaringClock$Forms", "other", "LSquaringClock$Form;", true)
def tyX2 : Nat → FieldType := fun k => match k with
  | 0 => .int
  | 1 => .object "SquaringClock$Form"
  | 2 => .object "SquaringClock$Form"
  | 3 => .object "SquaringClock$Euclid"
  | 4 => .object "SquaringClock$Form"
  | 5 => .object "SquaringClock$Form"
  | 6 => .object "SquaringClock$Form"
  | 7 => .object "SquaringClock$Form"
  | 8 => .object "SquaringClock$Form"
  | _ => .object "SquaringClock$Form"
abbrev wsX20 : List Cond := u_ws RX2 TX2 10
theorem nmX2 : ∀ a, a < 10 → ∀ b, b < 10 → a ≠ b → (TX2 a).2.1 ≠ (TX2 b).2.1 := by decide +kernel
theorem tyX2_ok : ∀ k, k < 10 → parseFieldDescriptor (TX2 k).2.2.1 = some (tyX2 k) := by decide +kernel
abbrev cX2_init : ByteArray := prog_4_method_1_code
def yX2_init : MethodName := ⟨RX2, "<init>", "()V"⟩
abbrev cX2_choose : ByteArray := prog_4_method_2_code
def yX2_choose : MethodName := ⟨RX2, "choose", "(I)V"⟩
abbrev cX2_complete : ByteArray := prog_4_method_3_code
def yX2_complete : MethodName := ⟨RX2, "complete", "(LSquaringClock$Form;JJ)V"⟩
abbrev cX2_hasForm : ByteArray := prog_4_method_4_code
def yX2_hasForm : MethodName := ⟨RX2, "hasForm", "(JJ)Z"⟩
abbrev cX2_hasNoCommonDivisor : ByteArray := prog_4_method_5_code
def yX2_hasNoCommonDivisor : MethodName := ⟨RX2, "hasNoCommonDivisor", "(JJJ)Z"⟩
abbrev cX2_settle : ByteArray := prog_4_method_6_code
def yX2_settle : MethodName := ⟨RX2, "settle", "(LSquaringClock$Form;)V"⟩
abbrev cX2_bringBNearZero : ByteArray := prog_4_method_7_code
def yX2_bringBNearZero : MethodName := ⟨RX2, "bringBNearZero", "(LSquaringClock$Form;)V"⟩
abbrev cX2_product : ByteArray := prog_4_method_8_code
def yX2_product : MethodName := ⟨RX2, "product", "(LSquaringClock$Form;LSquaringClock$Form;LSquaringClock$Form;)V"⟩
abbrev cX2_power : ByteArray := prog_4_method_9_code
def yX2_power : MethodName := ⟨RX2, "power", "(LSquaringClock$Form;ILSquaringClock$Form;)V"⟩
abbrev cX2_isGeneratorsPower : ByteArray := prog_4_method_10_code
def yX2_isGeneratorsPower : MethodName := ⟨RX2, "isGeneratorsPower", "(LSquaringClock$Form;I)Z"⟩
abbrev cX2_holds : ByteArray := prog_4_method_11_code
def yX2_holds : MethodName := ⟨RX2, "holds", "(LSquaringClock$Form;LSquaringClock$Form;LSquaringClock$Form;II)Z"⟩
abbrev cX2_restOfPowerOfTwo : ByteArray := prog_4_method_12_code
def yX2_restOfPowerOfTwo : MethodName := ⟨RX2, "restOfPowerOfTwo", "(II)I"⟩
abbrev cX2_generatorsOrder : ByteArray := prog_4_method_13_code
def yX2_generatorsOrder : MethodName := ⟨RX2, "generatorsOrder", "(I)I"⟩
abbrev cX2_countReduced : ByteArray := prog_4_method_14_code
def yX2_countReduced : MethodName := ⟨RX2, "countReduced", "()I"⟩
def RX3 : String := "SquaringClock$Round"
def TX3 : u_T := fun k => match k with
  | 0 => ("SquaringClock$Round", "squarings", "I", false)
  | 1 => ("SquaringClock$Round", "squaringsLeft", "I", false)
  | 2 => ("SquaringClock$Round", "stepsLeft", "I", false)
  | 3 => ("SquaringClock$Round", "exponent", "I", false)
  | 4 => ("SquaringClock$Round", "prime", "I", false)
  | 5 => ("SquaringClock$Round", "rest", "I", false)
  | 6 => ("SquaringClock$Round", "x", "LSquaringClock$Form;", true)
  | 7 => ("SquaringClock$Round", "y", "LSquaringClock$Form;", true)
  | _ => ("SquaringClock$Round", "proof", "LSquaringClock$Form;", true)
def tyX3 : Nat → FieldType := fun k => match k with
  | 0 => .int
  | 1 => .int
  | 2 => .int
  | 3 => .int
  | 4 => .int
  | 5 => .int
  | 6 => .object "SquaringClock$Form"
  | 7 => .object "SquaringClock$Form"
  | _ => .object "SquaringClock$Form"
abbrev wsX30 : List Cond := u_ws RX3 TX3 9
theorem nmX3 : ∀ a, a < 9 → ∀ b, b < 9 → a ≠ b → (TX3 a).2.1 ≠ (TX3 b).2.1 := by decide +kernel
theorem tyX3_ok : ∀ k, k < 9 → parseFieldDescriptor (TX3 k).2.2.1 = some (tyX3 k) := by decide +kernel
abbrev cX3_init : ByteArray := prog_5_method_1_code
def yX3_init : MethodName := ⟨RX3, "<init>", "()V"⟩
def RX4 : String := "SquaringClock"
def TX4 : u_T := fun k => match k with
  | 0 => ("SquaringClock", "forms", "LSquaringClock$Forms;", true)
  | 1 => ("SquaringClock", "book", "[LSquaringClock$Round;", true)
  | 2 => ("SquaringClock", "slots", "[LSquaringClock$Form;", true)
  | 3 => ("SquaringClock", "filled", "[Z", true)
  | 4 => ("SquaringClock", "chosen", "Z", false)
  | 5 => ("SquaringClock", "booked", "I", false)
  | _ => ("SquaringClock", "running", "LSquaringClock$Round;", false)
def tyX4 : Nat → FieldType := fun k => match k with
  | 0 => .object "SquaringClock$Forms"
  | 1 => .array (.object "SquaringClock$Round")
  | 2 => .array (.object "SquaringClock$Form")
  | 3 => .array .boolean
  | 4 => .boolean
  | 5 => .int
  | _ => .object "SquaringClock$Round"
abbrev wsX40 : List Cond := u_ws RX4 TX4 7
theorem nmX4 : ∀ a, a < 7 → ∀ b, b < 7 → a ≠ b → (TX4 a).2.1 ≠ (TX4 b).2.1 := by decide +kernel
theorem tyX4_ok : ∀ k, k < 7 → parseFieldDescriptor (TX4 k).2.2.1 = some (tyX4 k) := by decide +kernel
abbrev cX4_init : ByteArray := prog_1_method_1_code
def yX4_init : MethodName := ⟨RX4, "<init>", "()V"⟩
abbrev cX4_discriminant : ByteArray := prog_1_method_2_code
def yX4_discriminant : MethodName := ⟨RX4, "discriminant", "(I)V"⟩
abbrev cX4_begin : ByteArray := prog_1_method_3_code
def yX4_begin : MethodName := ⟨RX4, "begin", "(I)I"⟩
abbrev cX4_work : ByteArray := prog_1_method_4_code
def yX4_work : MethodName := ⟨RX4, "work", "(I)I"⟩
abbrev cX4_prove : ByteArray := prog_1_method_5_code
def yX4_prove : MethodName := ⟨RX4, "prove", "(I)I"⟩
abbrev cX4_publish : ByteArray := prog_1_method_6_code
def yX4_publish : MethodName := ⟨RX4, "publish", "()I"⟩
abbrev cX4_drop : ByteArray := prog_1_method_7_code
def yX4_drop : MethodName := ⟨RX4, "drop", "()Z"⟩
abbrev cX4_rounds : ByteArray := prog_1_method_8_code
def yX4_rounds : MethodName := ⟨RX4, "rounds", "()I"⟩
abbrev cX4_told : ByteArray := prog_1_method_9_code
def yX4_told : MethodName := ⟨RX4, "told", "(II)I"⟩
abbrev cX4_form : ByteArray := prog_1_method_10_code
def yX4_form : MethodName := ⟨RX4, "form", "(III)I"⟩
abbrev cX4_verify : ByteArray := prog_1_method_11_code
def yX4_verify : MethodName := ⟨RX4, "verify", "(I)Z"⟩
abbrev cX4_put : ByteArray := prog_1_method_12_code
def yX4_put : MethodName := ⟨RX4, "put", "(III)V"⟩
abbrev cX4_buffer : ByteArray := prog_1_method_13_code
def yX4_buffer : MethodName := ⟨RX4, "buffer", "(II)J"⟩
abbrev cX4_reduce : ByteArray := prog_1_method_14_code
def yX4_reduce : MethodName := ⟨RX4, "reduce", "(II)V"⟩
abbrev cX4_multiply : ByteArray := prog_1_method_15_code
def yX4_multiply : MethodName := ⟨RX4, "multiply", "(III)V"⟩
abbrev cX4_raise : ByteArray := prog_1_method_16_code
def yX4_raise : MethodName := ⟨RX4, "raise", "(III)V"⟩
abbrev cX4_test : ByteArray := prog_1_method_17_code
def yX4_test : MethodName := ⟨RX4, "test", "(I)I"⟩
abbrev cX4_order : ByteArray := prog_1_method_18_code
def yX4_order : MethodName := ⟨RX4, "order", "(I)I"⟩
abbrev cX4_classes : ByteArray := prog_1_method_19_code
def yX4_classes : MethodName := ⟨RX4, "classes", "()I"⟩
abbrev cX4_needDiscriminant : ByteArray := prog_1_method_20_code
def yX4_needDiscriminant : MethodName := ⟨RX4, "needDiscriminant", "()V"⟩
abbrev cX4_needTurns : ByteArray := prog_1_method_21_code
def yX4_needTurns : MethodName := ⟨RX4, "needTurns", "(I)V"⟩
abbrev cX4_needSlot : ByteArray := prog_1_method_22_code
def yX4_needSlot : MethodName := ⟨RX4, "needSlot", "(I)V"⟩
abbrev cX4_needPart : ByteArray := prog_1_method_23_code
def yX4_needPart : MethodName := ⟨RX4, "needPart", "(I)V"⟩
abbrev cX4_needFilled : ByteArray := prog_1_method_24_code
def yX4_needFilled : MethodName := ⟨RX4, "needFilled", "(I)V"⟩
abbrev cX4_bookedRound : ByteArray := prog_1_method_25_code
def yX4_bookedRound : MethodName := ⟨RX4, "bookedRound", "(I)LSquaringClock$Round;"⟩
abbrev cX4_bookedOrRunning : ByteArray := prog_1_method_26_code
def yX4_bookedOrRunning : MethodName := ⟨RX4, "bookedOrRunning", "(I)LSquaringClock$Round;"⟩
abbrev cX4_nextExponent : ByteArray := prog_1_method_27_code
def yX4_nextExponent : MethodName := ⟨RX4, "nextExponent", "()I"⟩
abbrev cX4_primeOf : ByteArray := prog_1_method_28_code
def yX4_primeOf : MethodName := ⟨RX4, "primeOf", "(LSquaringClock$Form;LSquaringClock$Form;I)I"⟩
abbrev cX4_mixed : ByteArray := prog_1_method_29_code
def yX4_mixed : MethodName := ⟨RX4, "mixed", "(II)I"⟩
abbrev cX4_mixedForm : ByteArray := prog_1_method_30_code
def yX4_mixedForm : MethodName := ⟨RX4, "mixedForm", "(ILSquaringClock$Form;)I"⟩
abbrev cX4_leastPrimeFrom : ByteArray := prog_1_method_31_code
def yX4_leastPrimeFrom : MethodName := ⟨RX4, "leastPrimeFrom", "(I)I"⟩
abbrev cX4_isPrime : ByteArray := prog_1_method_32_code
def yX4_isPrime : MethodName := ⟨RX4, "isPrime", "(I)Z"⟩
abbrev cX4_stepOfProof : ByteArray := prog_1_method_33_code
def yX4_stepOfProof : MethodName := ⟨RX4, "stepOfProof", "(LSquaringClock$Round;)V"⟩
abbrev cX4_quotient : ByteArray := prog_1_method_34_code
def yX4_quotient : MethodName := ⟨RX4, "quotient", "(JJ)J"⟩
abbrev cX4_remainder : ByteArray := prog_1_method_35_code
def yX4_remainder : MethodName := ⟨RX4, "remainder", "(JJ)J"⟩
def RX5 : String := "SquaringClockModel"
def TX5 : u_T := fun k => match k with
  | 0 => ("SquaringClockModel", "thrown", "I", false)
  | 1 => ("SquaringClockModel", "d", "J", false)
  | 2 => ("SquaringClockModel", "as", "[J", true)
  | 3 => ("SquaringClockModel", "bs", "[J", true)
  | 4 => ("SquaringClockModel", "cs", "[J", true)
  | 5 => ("SquaringClockModel", "filled", "[Z", true)
  | 6 => ("SquaringClockModel", "running", "Z", false)
  | 7 => ("SquaringClockModel", "booked", "I", false)
  | 8 => ("SquaringClockModel", "facts", "[I", true)
  | 9 => ("SquaringClockModel", "squarings", "I", false)
  | 10 => ("SquaringClockModel", "steps", "I", false)
  | _ => ("SquaringClockModel", "rest", "I", false)
def tyX5 : Nat → FieldType := fun k => match k with
  | 0 => .int
  | 1 => .long
  | 2 => .array .long
  | 3 => .array .long
  | 4 => .array .long
  | 5 => .array .boolean
  | 6 => .boolean
  | 7 => .int
  | 8 => .array .int
  | 9 => .int
  | 10 => .int
  | _ => .int
abbrev wsX50 : List Cond := u_ws RX5 TX5 12
theorem nmX5 : ∀ a, a < 12 → ∀ b, b < 12 → a ≠ b → (TX5 a).2.1 ≠ (TX5 b).2.1 := by decide +kernel
theorem tyX5_ok : ∀ k, k < 12 → parseFieldDescriptor (TX5 k).2.2.1 = some (tyX5 k) := by decide +kernel
abbrev cX5_init : ByteArray := prog_7_method_1_code
def yX5_init : MethodName := ⟨RX5, "<init>", "()V"⟩
abbrev cX5_thrown : ByteArray := prog_7_method_2_code
def yX5_thrown : MethodName := ⟨RX5, "thrown", "()I"⟩
abbrev cX5_divisor : ByteArray := prog_7_method_3_code
def yX5_divisor : MethodName := ⟨RX5, "divisor", "(JJ)J"⟩
abbrev cX5_down : ByteArray := prog_7_method_4_code
def yX5_down : MethodName := ⟨RX5, "down", "(JJ)J"⟩
abbrev cX5_modulo : ByteArray := prog_7_method_5_code
def yX5_modulo : MethodName := ⟨RX5, "modulo", "(JJ)J"⟩
abbrev cX5_inverse : ByteArray := prog_7_method_6_code
def yX5_inverse : MethodName := ⟨RX5, "inverse", "(JJ)J"⟩
abbrev cX5_set : ByteArray := prog_7_method_7_code
def yX5_set : MethodName := ⟨RX5, "set", "(IJJJ)V"⟩
abbrev cX5_copy : ByteArray := prog_7_method_8_code
def yX5_copy : MethodName := ⟨RX5, "copy", "(II)V"⟩
abbrev cX5_same : ByteArray := prog_7_method_9_code
def yX5_same : MethodName := ⟨RX5, "same", "(II)Z"⟩
abbrev cX5_isReduced : ByteArray := prog_7_method_10_code
def yX5_isReduced : MethodName := ⟨RX5, "isReduced", "(I)Z"⟩
abbrev cX5_settle : ByteArray := prog_7_method_11_code
def yX5_settle : MethodName := ⟨RX5, "settle", "(I)V"⟩
abbrev cX5_valueOf : ByteArray := prog_7_method_12_code
def yX5_valueOf : MethodName := ⟨RX5, "valueOf", "(JJJJJ)J"⟩
abbrev cX5_unite : ByteArray := prog_7_method_13_code
def yX5_unite : MethodName := ⟨RX5, "unite", "(I)V"⟩
abbrev cX5_times : ByteArray := prog_7_method_14_code
def yX5_times : MethodName := ⟨RX5, "times", "(III)V"⟩
abbrev cX5_raiseTo : ByteArray := prog_7_method_15_code
def yX5_raiseTo : MethodName := ⟨RX5, "raiseTo", "(III)V"⟩
abbrev cX5_mix : ByteArray := prog_7_method_16_code
def yX5_mix : MethodName := ⟨RX5, "mix", "(II)I"⟩
abbrev cX5_mixForm : ByteArray := prog_7_method_17_code
def yX5_mixForm : MethodName := ⟨RX5, "mixForm", "(II)I"⟩
abbrev cX5_isPrime : ByteArray := prog_7_method_18_code
def yX5_isPrime : MethodName := ⟨RX5, "isPrime", "(I)Z"⟩
abbrev cX5_primeOf : ByteArray := prog_7_method_19_code
def yX5_primeOf : MethodName := ⟨RX5, "primeOf", "(III)I"⟩
abbrev cX5_discriminant : ByteArray := prog_7_method_20_code
def yX5_discriminant : MethodName := ⟨RX5, "discriminant", "(I)V"⟩
abbrev cX5_isAny : ByteArray := prog_7_method_21_code
def yX5_isAny : MethodName := ⟨RX5, "isAny", "()Z"⟩
abbrev cX5_begin : ByteArray := prog_7_method_22_code
def yX5_begin : MethodName := ⟨RX5, "begin", "(I)I"⟩
abbrev cX5_isMany : ByteArray := prog_7_method_23_code
def yX5_isMany : MethodName := ⟨RX5, "isMany", "(I)Z"⟩
abbrev cX5_work : ByteArray := prog_7_method_24_code
def yX5_work : MethodName := ⟨RX5, "work", "(I)I"⟩
abbrev cX5_prove : ByteArray := prog_7_method_25_code
def yX5_prove : MethodName := ⟨RX5, "prove", "(I)I"⟩
abbrev cX5_publish : ByteArray := prog_7_method_26_code
def yX5_publish : MethodName := ⟨RX5, "publish", "()I"⟩
abbrev cX5_drop : ByteArray := prog_7_method_27_code
def yX5_drop : MethodName := ⟨RX5, "drop", "()Z"⟩
abbrev cX5_rounds : ByteArray := prog_7_method_28_code
def yX5_rounds : MethodName := ⟨RX5, "rounds", "()I"⟩
abbrev cX5_place : ByteArray := prog_7_method_29_code
def yX5_place : MethodName := ⟨RX5, "place", "(I)I"⟩
abbrev cX5_told : ByteArray := prog_7_method_30_code
def yX5_told : MethodName := ⟨RX5, "told", "(II)I"⟩
abbrev cX5_partOf : ByteArray := prog_7_method_31_code
def yX5_partOf : MethodName := ⟨RX5, "partOf", "(II)J"⟩
abbrev cX5_form : ByteArray := prog_7_method_32_code
def yX5_form : MethodName := ⟨RX5, "form", "(III)I"⟩
abbrev cX5_restOf : ByteArray := prog_7_method_33_code
def yX5_restOf : MethodName := ⟨RX5, "restOf", "(II)I"⟩
abbrev cX5_holds : ByteArray := prog_7_method_34_code
def yX5_holds : MethodName := ⟨RX5, "holds", "(IIIII)Z"⟩
abbrev cX5_verify : ByteArray := prog_7_method_35_code
def yX5_verify : MethodName := ⟨RX5, "verify", "(I)Z"⟩
abbrev cX5_isPlace : ByteArray := prog_7_method_36_code
def yX5_isPlace : MethodName := ⟨RX5, "isPlace", "(I)Z"⟩
abbrev cX5_put : ByteArray := prog_7_method_37_code
def yX5_put : MethodName := ⟨RX5, "put", "(III)V"⟩
abbrev cX5_buffer : ByteArray := prog_7_method_38_code
def yX5_buffer : MethodName := ⟨RX5, "buffer", "(II)J"⟩
abbrev cX5_reduce : ByteArray := prog_7_method_39_code
def yX5_reduce : MethodName := ⟨RX5, "reduce", "(II)V"⟩
abbrev cX5_multiply : ByteArray := prog_7_method_40_code
def yX5_multiply : MethodName := ⟨RX5, "multiply", "(III)V"⟩
abbrev cX5_raise : ByteArray := prog_7_method_41_code
def yX5_raise : MethodName := ⟨RX5, "raise", "(III)V"⟩
abbrev cX5_test : ByteArray := prog_7_method_42_code
def yX5_test : MethodName := ⟨RX5, "test", "(I)I"⟩
abbrev cX5_order : ByteArray := prog_7_method_43_code
def yX5_order : MethodName := ⟨RX5, "order", "(I)I"⟩
abbrev cX5_classes : ByteArray := prog_7_method_44_code
def yX5_classes : MethodName := ⟨RX5, "classes", "()I"⟩
def RJx145de : String := "java/io/Serializable"
def TJx145de : u_T := fun k => match k with
  | _ => ("", "", "", false)
def tyJx145de : Nat → FieldType := fun k => match k with
  | _ => .int
abbrev wsJx145de0 : List Cond := u_ws RJx145de TJx145de 0
theorem nmJx145de : ∀ a, a < 0 → ∀ b, b < 0 → a ≠ b → (TJx145de a).2.1 ≠ (TJx145de b).2.1 := by decide +kernel
theorem tyJx145de_ok : ∀ k, k < 0 → parseFieldDescriptor (TJx145de k).2.2.1 = some (tyJx145de k) := by decide +kernel
def RJ9 : String := "java/lang/Math"
def TJ9 : u_T := fun k => match k with
  | _ => ("", "", "", false)
def tyJ9 : Nat → FieldType := fun k => match k with
  | _ => .int
abbrev wsJ90 : List Cond := u_ws RJ9 TJ9 0
theorem nmJ9 : ∀ a, a < 0 → ∀ b, b < 0 → a ≠ b → (TJ9 a).2.1 ≠ (TJ9 b).2.1 := by decide +kernel
theorem tyJ9_ok : ∀ k, k < 0 → parseFieldDescriptor (TJ9 k).2.2.1 = some (tyJ9 k) := by decide +kernel
abbrev cJ9_min_7cf53 : ByteArray := prog_13_method_69_code
def yJ9_min_7cf53 : MethodName := ⟨RJ9, "min", "(II)I"⟩
def RJ0 : String := "java/lang/String"
def TJ0 : u_T := fun k => match k with
  | _ => ("", "", "", false)
def tyJ0 : Nat → FieldType := fun k => match k with
  | _ => .int
abbrev wsJ00 : List Cond := u_ws RJ0 TJ0 0
theorem nmJ0 : ∀ a, a < 0 → ∀ b, b < 0 → a ≠ b → (TJ0 a).2.1 ≠ (TJ0 b).2.1 := by decide +kernel
theorem tyJ0_ok : ∀ k, k < 0 → parseFieldDescriptor (TJ0 k).2.2.1 = some (tyJ0 k) := by decide +kernel
def RL : String := "SquaringClockLaw"
abbrev cL_discriminant : ByteArray := method_3_code
def yL_discriminant : MethodName := ⟨RL, "discriminant", "(LSquaringClock;I)I"⟩
abbrev cL_begin : ByteArray := method_4_code
def yL_begin : MethodName := ⟨RL, "begin", "(LSquaringClock;I[J)I"⟩
abbrev cL_work : ByteArray := method_5_code
def yL_work : MethodName := ⟨RL, "work", "(LSquaringClock;I[J)I"⟩
abbrev cL_prove : ByteArray := method_6_code
def yL_prove : MethodName := ⟨RL, "prove", "(LSquaringClock;I[J)I"⟩
abbrev cL_publish : ByteArray := method_7_code
def yL_publish : MethodName := ⟨RL, "publish", "(LSquaringClock;[J)I"⟩
abbrev cL_told : ByteArray := method_8_code
def yL_told : MethodName := ⟨RL, "told", "(LSquaringClock;II[J)I"⟩
abbrev cL_form : ByteArray := method_9_code
def yL_form : MethodName := ⟨RL, "form", "(LSquaringClock;III[J)I"⟩
abbrev cL_verify : ByteArray := method_10_code
def yL_verify : MethodName := ⟨RL, "verify", "(LSquaringClock;I[J)I"⟩
abbrev cL_put : ByteArray := method_11_code
def yL_put : MethodName := ⟨RL, "put", "(LSquaringClock;III)I"⟩
abbrev cL_buffer : ByteArray := method_12_code
def yL_buffer : MethodName := ⟨RL, "buffer", "(LSquaringClock;II[J)I"⟩
abbrev cL_reduce : ByteArray := method_13_code
def yL_reduce : MethodName := ⟨RL, "reduce", "(LSquaringClock;II)I"⟩
abbrev cL_multiply : ByteArray := method_14_code
def yL_multiply : MethodName := ⟨RL, "multiply", "(LSquaringClock;III)I"⟩
abbrev cL_raise : ByteArray := method_15_code
def yL_raise : MethodName := ⟨RL, "raise", "(LSquaringClock;III)I"⟩
abbrev cL_test : ByteArray := method_16_code
def yL_test : MethodName := ⟨RL, "test", "(LSquaringClock;I[J)I"⟩
abbrev cL_order : ByteArray := method_17_code
def yL_order : MethodName := ⟨RL, "order", "(LSquaringClock;I[J)I"⟩
abbrev cL_classes : ByteArray := method_18_code
def yL_classes : MethodName := ⟨RL, "classes", "(LSquaringClock;[J)I"⟩
abbrev cL_law : ByteArray := code
def yL_law : MethodName := ⟨RL, "law", "([I)Z"⟩
abbrev vwCl : List vw_C := [(RX0, TX0, 3), (RX1, TX1, 3), (RX2, TX2, 10), (RX3, TX3, 9), (RX4, TX4, 7), (RX5, TX5, 12)]
end
section
theorem dX0_init_0 : decode cX0_init 0 = .ok (.aload_n 0, 1) := by decide +kernel
theorem dX0_init_1 : decode cX0_init 1 = .ok (.invokespecial 3, 3) := by decide +kernel
theorem dX0_init_4 : decode cX0_init 4 = .ok (.return_, 1) := by decide +kernel
theorem dX0_find_0 : decode cX0_find 0 = .ok (.lload_n 1, 1) := by decide +kernel
theorem dX0_find_1 : decode cX0_find 1 = .ok (.lstore 5, 2) := by decide +kernel
theorem dX0_find_3 : decode cX0_find 3 = .ok (.lload_n 3, 1) := by decide +kernel
theorem dX0_find_4 : decode cX0_find 4 = .ok (.lstore 7, 2) := by decide +kernel
theorem dX0_find_6 : decode cX0_find 6 = .ok (.lconst 0, 1) := by decide +kernel
theorem dX0_find_7 : decode cX0_find 7 = .ok (.lstore 9, 2) := by decide +kernel
theorem dX0_find_9 : decode cX0_find 9 = .ok (.lconst 1, 1) := by decide +kernel
theorem dX0_find_10 : decode cX0_find 10 = .ok (.lstore 11, 2) := by decide +kernel
theorem dX0_find_12 : decode cX0_find 12 = .ok (.aload_n 0, 1) := by decide +kernel
theorem dX0_find_13 : decode cX0_find 13 = .ok (.lconst 1, 1) := by decide +kernel
theorem dX0_find_14 : decode cX0_find 14 = .ok (.putfield 9, 3) := by decide +kernel
theorem dX0_find_17 : decode cX0_find 17 = .ok (.aload_n 0, 1) := by decide +kernel
theorem dX0_find_18 : decode cX0_find 18 = .ok (.lconst 0, 1) := by decide +kernel
theorem dX0_find_19 : decode cX0_find 19 = .ok (.putfield 15, 3) := by decide +kernel
theorem dX0_find_22 : decode cX0_find 22 = .ok (.iconst 0, 1) := by decide +kernel
theorem dX0_find_23 : decode cX0_find 23 = .ok (.istore 13, 2) := by decide +kernel
theorem dX0_find_25 : decode cX0_find 25 = .ok (.iload 13, 2) := by decide +kernel
theorem dX0_find_27 : decode cX0_find 27 = .ok (.ldc 18, 2) := by decide +kernel
theorem dX0_find_29 : decode cX0_find 29 = .ok (.if_icmp .ge 87, 3) := by decide +kernel
theorem dX0_find_32 : decode cX0_find 32 = .ok (.lload 7, 2) := by decide +kernel
theorem dX0_find_34 : decode cX0_find 34 = .ok (.lconst 0, 1) := by decide +kernel
theorem dX0_find_35 : decode cX0_find 35 = .ok (.lcmp, 1) := by decide +kernel
theorem dX0_find_36 : decode cX0_find 36 = .ok (.ifCond .eq 80, 3) := by decide +kernel
theorem dX0_find_39 : decode cX0_find 39 = .ok (.lload 5, 2) := by decide +kernel
theorem dX0_find_41 : decode cX0_find 41 = .ok (.lload 7, 2) := by decide +kernel
theorem dX0_find_43 : decode cX0_find 43 = .ok (.invokestatic 19, 3) := by decide +kernel
theorem dX0_find_46 : decode cX0_find 46 = .ok (.lstore 14, 2) := by decide +kernel
theorem dX0_find_48 : decode cX0_find 48 = .ok (.lload 5, 2) := by decide +kernel
theorem dX0_find_50 : decode cX0_find 50 = .ok (.lload 14, 2) := by decide +kernel
theorem dX0_find_52 : decode cX0_find 52 = .ok (.lload 7, 2) := by decide +kernel
theorem dX0_find_54 : decode cX0_find 54 = .ok (.lmul, 1) := by decide +kernel
theorem dX0_find_55 : decode cX0_find 55 = .ok (.lsub, 1) := by decide +kernel
theorem dX0_find_56 : decode cX0_find 56 = .ok (.lstore 16, 2) := by decide +kernel
theorem dX0_find_58 : decode cX0_find 58 = .ok (.lload 7, 2) := by decide +kernel
theorem dX0_find_60 : decode cX0_find 60 = .ok (.lstore 5, 2) := by decide +kernel
theorem dX0_find_62 : decode cX0_find 62 = .ok (.lload 16, 2) := by decide +kernel
theorem dX0_find_64 : decode cX0_find 64 = .ok (.lstore 7, 2) := by decide +kernel
theorem dX0_find_66 : decode cX0_find 66 = .ok (.aload_n 0, 1) := by decide +kernel
theorem dX0_find_67 : decode cX0_find 67 = .ok (.getfield 9, 3) := by decide +kernel
theorem dX0_find_70 : decode cX0_find 70 = .ok (.lload 14, 2) := by decide +kernel
theorem dX0_find_72 : decode cX0_find 72 = .ok (.lload 9, 2) := by decide +kernel
theorem dX0_find_74 : decode cX0_find 74 = .ok (.lmul, 1) := by decide +kernel
theorem dX0_find_75 : decode cX0_find 75 = .ok (.lsub, 1) := by decide +kernel
theorem dX0_find_76 : decode cX0_find 76 = .ok (.lstore 16, 2) := by decide +kernel
theorem dX0_find_78 : decode cX0_find 78 = .ok (.aload_n 0, 1) := by decide +kernel
theorem dX0_find_79 : decode cX0_find 79 = .ok (.lload 9, 2) := by decide +kernel
theorem dX0_find_81 : decode cX0_find 81 = .ok (.putfield 9, 3) := by decide +kernel
theorem dX0_find_84 : decode cX0_find 84 = .ok (.lload 16, 2) := by decide +kernel
theorem dX0_find_86 : decode cX0_find 86 = .ok (.lstore 9, 2) := by decide +kernel
theorem dX0_find_88 : decode cX0_find 88 = .ok (.aload_n 0, 1) := by decide +kernel
theorem dX0_find_89 : decode cX0_find 89 = .ok (.getfield 15, 3) := by decide +kernel
theorem dX0_find_92 : decode cX0_find 92 = .ok (.lload 14, 2) := by decide +kernel
theorem dX0_find_94 : decode cX0_find 94 = .ok (.lload 11, 2) := by decide +kernel
theorem dX0_find_96 : decode cX0_find 96 = .ok (.lmul, 1) := by decide +kernel
theorem dX0_find_97 : decode cX0_find 97 = .ok (.lsub, 1) := by decide +kernel
theorem dX0_find_98 : decode cX0_find 98 = .ok (.lstore 16, 2) := by decide +kernel
theorem dX0_find_100 : decode cX0_find 100 = .ok (.aload_n 0, 1) := by decide +kernel
theorem dX0_find_101 : decode cX0_find 101 = .ok (.lload 11, 2) := by decide +kernel
theorem dX0_find_103 : decode cX0_find 103 = .ok (.putfield 15, 3) := by decide +kernel
theorem dX0_find_106 : decode cX0_find 106 = .ok (.lload 16, 2) := by decide +kernel
theorem dX0_find_108 : decode cX0_find 108 = .ok (.lstore 11, 2) := by decide +kernel
theorem dX0_find_110 : decode cX0_find 110 = .ok (.iinc 13 1, 3) := by decide +kernel
theorem dX0_find_113 : decode cX0_find 113 = .ok (.goto (-88), 3) := by decide +kernel
theorem dX0_find_116 : decode cX0_find 116 = .ok (.lload 5, 2) := by decide +kernel
theorem dX0_find_118 : decode cX0_find 118 = .ok (.lconst 0, 1) := by decide +kernel
theorem dX0_find_119 : decode cX0_find 119 = .ok (.lcmp, 1) := by decide +kernel
theorem dX0_find_120 : decode cX0_find 120 = .ok (.ifCond .ge 9, 3) := by decide +kernel
theorem dX0_find_123 : decode cX0_find 123 = .ok (.ldc2_w 23, 3) := by decide +kernel
theorem dX0_find_126 : decode cX0_find 126 = .ok (.goto 4, 3) := by decide +kernel
theorem dX0_find_129 : decode cX0_find 129 = .ok (.lconst 1, 1) := by decide +kernel
theorem dX0_find_130 : decode cX0_find 130 = .ok (.lstore 13, 2) := by decide +kernel
theorem dX0_find_132 : decode cX0_find 132 = .ok (.aload_n 0, 1) := by decide +kernel
theorem dX0_find_133 : decode cX0_find 133 = .ok (.lload 13, 2) := by decide +kernel
theorem dX0_find_135 : decode cX0_find 135 = .ok (.lload 5, 2) := by decide +kernel
theorem dX0_find_137 : decode cX0_find 137 = .ok (.lmul, 1) := by decide +kernel
theorem dX0_find_138 : decode cX0_find 138 = .ok (.putfield 25, 3) := by decide +kernel
theorem dX0_find_141 : decode cX0_find 141 = .ok (.aload_n 0, 1) := by decide +kernel
theorem dX0_find_142 : decode cX0_find 142 = .ok (.lload 13, 2) := by decide +kernel
theorem dX0_find_144 : decode cX0_find 144 = .ok (.aload_n 0, 1) := by decide +kernel
theorem dX0_find_145 : decode cX0_find 145 = .ok (.getfield 9, 3) := by decide +kernel
theorem dX0_find_148 : decode cX0_find 148 = .ok (.lmul, 1) := by decide +kernel
theorem dX0_find_149 : decode cX0_find 149 = .ok (.putfield 9, 3) := by decide +kernel
theorem dX0_find_152 : decode cX0_find 152 = .ok (.aload_n 0, 1) := by decide +kernel
theorem dX0_find_153 : decode cX0_find 153 = .ok (.lload 13, 2) := by decide +kernel
theorem dX0_find_155 : decode cX0_find 155 = .ok (.aload_n 0, 1) := by decide +kernel
theorem dX0_find_156 : decode cX0_find 156 = .ok (.getfield 15, 3) := by decide +kernel
theorem dX0_find_159 : decode cX0_find 159 = .ok (.lmul, 1) := by decide +kernel
theorem dX0_find_160 : decode cX0_find 160 = .ok (.putfield 15, 3) := by decide +kernel
theorem dX0_find_163 : decode cX0_find 163 = .ok (.return_, 1) := by decide +kernel
theorem dX1_init_0 : decode cX1_init 0 = .ok (.aload_n 0, 1) := by decide +kernel
theorem dX1_init_1 : decode cX1_init 1 = .ok (.invokespecial 1, 3) := by decide +kernel
theorem dX1_init_4 : decode cX1_init 4 = .ok (.aload_n 0, 1) := by decide +kernel
theorem dX1_init_5 : decode cX1_init 5 = .ok (.lconst 1, 1) := by decide +kernel
theorem dX1_init_6 : decode cX1_init 6 = .ok (.putfield 7, 3) := by decide +kernel
theorem dX1_init_9 : decode cX1_init 9 = .ok (.aload_n 0, 1) := by decide +kernel
theorem dX1_init_10 : decode cX1_init 10 = .ok (.lconst 1, 1) := by decide +kernel
theorem dX1_init_11 : decode cX1_init 11 = .ok (.putfield 13, 3) := by decide +kernel
theorem dX1_init_14 : decode cX1_init 14 = .ok (.aload_n 0, 1) := by decide +kernel
theorem dX1_init_15 : decode cX1_init 15 = .ok (.lconst 1, 1) := by decide +kernel
theorem dX1_init_16 : decode cX1_init 16 = .ok (.putfield 16, 3) := by decide +kernel
theorem dX1_init_19 : decode cX1_init 19 = .ok (.return_, 1) := by decide +kernel
theorem dX1_become_0 : decode cX1_become 0 = .ok (.aload_n 0, 1) := by decide +kernel
theorem dX1_become_1 : decode cX1_become 1 = .ok (.aload_n 1, 1) := by decide +kernel
theorem dX1_become_2 : decode cX1_become 2 = .ok (.getfield 7, 3) := by decide +kernel
theorem dX1_become_5 : decode cX1_become 5 = .ok (.putfield 7, 3) := by decide +kernel
theorem dX1_become_8 : decode cX1_become 8 = .ok (.aload_n 0, 1) := by decide +kernel
theorem dX1_become_9 : decode cX1_become 9 = .ok (.aload_n 1, 1) := by decide +kernel
theorem dX1_become_10 : decode cX1_become 10 = .ok (.getfield 13, 3) := by decide +kernel
theorem dX1_become_13 : decode cX1_become 13 = .ok (.putfield 13, 3) := by decide +kernel
theorem dX1_become_16 : decode cX1_become 16 = .ok (.aload_n 0, 1) := by decide +kernel
theorem dX1_become_17 : decode cX1_become 17 = .ok (.aload_n 1, 1) := by decide +kernel
theorem dX1_become_18 : decode cX1_become 18 = .ok (.getfield 16, 3) := by decide +kernel
theorem dX1_become_21 : decode cX1_become 21 = .ok (.putfield 16, 3) := by decide +kernel
theorem dX1_become_24 : decode cX1_become 24 = .ok (.return_, 1) := by decide +kernel
theorem dX1_isSame_0 : decode cX1_isSame 0 = .ok (.aload_n 0, 1) := by decide +kernel
theorem dX1_isSame_1 : decode cX1_isSame 1 = .ok (.getfield 7, 3) := by decide +kernel
theorem dX1_isSame_4 : decode cX1_isSame 4 = .ok (.aload_n 1, 1) := by decide +kernel
theorem dX1_isSame_5 : decode cX1_isSame 5 = .ok (.getfield 7, 3) := by decide +kernel
theorem dX1_isSame_8 : decode cX1_isSame 8 = .ok (.lcmp, 1) := by decide +kernel
theorem dX1_isSame_9 : decode cX1_isSame 9 = .ok (.ifCond .ne 31, 3) := by decide +kernel
theorem dX1_isSame_12 : decode cX1_isSame 12 = .ok (.aload_n 0, 1) := by decide +kernel
theorem dX1_isSame_13 : decode cX1_isSame 13 = .ok (.getfield 13, 3) := by decide +kernel
theorem dX1_isSame_16 : decode cX1_isSame 16 = .ok (.aload_n 1, 1) := by decide +kernel
theorem dX1_isSame_17 : decode cX1_isSame 17 = .ok (.getfield 13, 3) := by decide +kernel
theorem dX1_isSame_20 : decode cX1_isSame 20 = .ok (.lcmp, 1) := by decide +kernel
theorem dX1_isSame_21 : decode cX1_isSame 21 = .ok (.ifCond .ne 19, 3) := by decide +kernel
theorem dX1_isSame_24 : decode cX1_isSame 24 = .ok (.aload_n 0, 1) := by decide +kernel
theorem dX1_isSame_25 : decode cX1_isSame 25 = .ok (.getfield 16, 3) := by decide +kernel
theorem dX1_isSame_28 : decode cX1_isSame 28 = .ok (.aload_n 1, 1) := by decide +kernel
theorem dX1_isSame_29 : decode cX1_isSame 29 = .ok (.getfield 16, 3) := by decide +kernel
theorem dX1_isSame_32 : decode cX1_isSame 32 = .ok (.lcmp, 1) := by decide +kernel
theorem dX1_isSame_33 : decode cX1_isSame 33 = .ok (.ifCond .ne 7, 3) := by decide +kernel
theorem dX1_isSame_36 : decode cX1_isSame 36 = .ok (.iconst 1, 1) := by decide +kernel
theorem dX1_isSame_37 : decode cX1_isSame 37 = .ok (.goto 4, 3) := by decide +kernel
theorem dX1_isSame_40 : decode cX1_isSame 40 = .ok (.iconst 0, 1) := by decide +kernel
theorem dX1_isSame_41 : decode cX1_isSame 41 = .ok (.ireturn, 1) := by decide +kernel
theorem dX1_isReduced_0 : decode cX1_isReduced 0 = .ok (.aload_n 0, 1) := by decide +kernel
theorem dX1_isReduced_1 : decode cX1_isReduced 1 = .ok (.getfield 7, 3) := by decide +kernel
theorem dX1_isReduced_4 : decode cX1_isReduced 4 = .ok (.lneg, 1) := by decide +kernel
theorem dX1_isReduced_5 : decode cX1_isReduced 5 = .ok (.aload_n 0, 1) := by decide +kernel
theorem dX1_isReduced_6 : decode cX1_isReduced 6 = .ok (.getfield 13, 3) := by decide +kernel
theorem dX1_isReduced_9 : decode cX1_isReduced 9 = .ok (.lcmp, 1) := by decide +kernel
theorem dX1_isReduced_10 : decode cX1_isReduced 10 = .ok (.ifCond .ge 52, 3) := by decide +kernel
theorem dX1_isReduced_13 : decode cX1_isReduced 13 = .ok (.aload_n 0, 1) := by decide +kernel
theorem dX1_isReduced_14 : decode cX1_isReduced 14 = .ok (.getfield 13, 3) := by decide +kernel
theorem dX1_isReduced_17 : decode cX1_isReduced 17 = .ok (.aload_n 0, 1) := by decide +kernel
theorem dX1_isReduced_18 : decode cX1_isReduced 18 = .ok (.getfield 7, 3) := by decide +kernel
theorem dX1_isReduced_21 : decode cX1_isReduced 21 = .ok (.lcmp, 1) := by decide +kernel
theorem dX1_isReduced_22 : decode cX1_isReduced 22 = .ok (.ifCond .gt 40, 3) := by decide +kernel
theorem dX1_isReduced_25 : decode cX1_isReduced 25 = .ok (.aload_n 0, 1) := by decide +kernel
theorem dX1_isReduced_26 : decode cX1_isReduced 26 = .ok (.getfield 7, 3) := by decide +kernel
theorem dX1_isReduced_29 : decode cX1_isReduced 29 = .ok (.aload_n 0, 1) := by decide +kernel
theorem dX1_isReduced_30 : decode cX1_isReduced 30 = .ok (.getfield 16, 3) := by decide +kernel
theorem dX1_isReduced_33 : decode cX1_isReduced 33 = .ok (.lcmp, 1) := by decide +kernel
theorem dX1_isReduced_34 : decode cX1_isReduced 34 = .ok (.ifCond .gt 28, 3) := by decide +kernel
theorem dX1_isReduced_37 : decode cX1_isReduced 37 = .ok (.aload_n 0, 1) := by decide +kernel
theorem dX1_isReduced_38 : decode cX1_isReduced 38 = .ok (.getfield 7, 3) := by decide +kernel
theorem dX1_isReduced_41 : decode cX1_isReduced 41 = .ok (.aload_n 0, 1) := by decide +kernel
theorem dX1_isReduced_42 : decode cX1_isReduced 42 = .ok (.getfield 16, 3) := by decide +kernel
theorem dX1_isReduced_45 : decode cX1_isReduced 45 = .ok (.lcmp, 1) := by decide +kernel
theorem dX1_isReduced_46 : decode cX1_isReduced 46 = .ok (.ifCond .ne 12, 3) := by decide +kernel
theorem dX1_isReduced_49 : decode cX1_isReduced 49 = .ok (.aload_n 0, 1) := by decide +kernel
theorem dX1_isReduced_50 : decode cX1_isReduced 50 = .ok (.getfield 13, 3) := by decide +kernel
theorem dX1_isReduced_53 : decode cX1_isReduced 53 = .ok (.lconst 0, 1) := by decide +kernel
theorem dX1_isReduced_54 : decode cX1_isReduced 54 = .ok (.lcmp, 1) := by decide +kernel
theorem dX1_isReduced_55 : decode cX1_isReduced 55 = .ok (.ifCond .lt 7, 3) := by decide +kernel
theorem dX1_isReduced_58 : decode cX1_isReduced 58 = .ok (.iconst 1, 1) := by decide +kernel
theorem dX1_isReduced_59 : decode cX1_isReduced 59 = .ok (.goto 4, 3) := by decide +kernel
theorem dX1_isReduced_62 : decode cX1_isReduced 62 = .ok (.iconst 0, 1) := by decide +kernel
theorem dX1_isReduced_63 : decode cX1_isReduced 63 = .ok (.ireturn, 1) := by decide +kernel
theorem dX1_part_0 : decode cX1_part 0 = .ok (.iload_n 1, 1) := by decide +kernel
theorem dX1_part_1 : decode cX1_part 1 = .ok (.ifCond .ne 8, 3) := by decide +kernel
theorem dX1_part_4 : decode cX1_part 4 = .ok (.aload_n 0, 1) := by decide +kernel
theorem dX1_part_5 : decode cX1_part 5 = .ok (.getfield 7, 3) := by decide +kernel
theorem dX1_part_8 : decode cX1_part 8 = .ok (.lreturn, 1) := by decide +kernel
theorem dX1_part_9 : decode cX1_part 9 = .ok (.iload_n 1, 1) := by decide +kernel
theorem dX1_part_10 : decode cX1_part 10 = .ok (.iconst 1, 1) := by decide +kernel
theorem dX1_part_11 : decode cX1_part 11 = .ok (.if_icmp .ne 10, 3) := by decide +kernel
theorem dX1_part_14 : decode cX1_part 14 = .ok (.aload_n 0, 1) := by decide +kernel
theorem dX1_part_15 : decode cX1_part 15 = .ok (.getfield 13, 3) := by decide +kernel
theorem dX1_part_18 : decode cX1_part 18 = .ok (.goto 7, 3) := by decide +kernel
theorem dX1_part_21 : decode cX1_part 21 = .ok (.aload_n 0, 1) := by decide +kernel
theorem dX1_part_22 : decode cX1_part 22 = .ok (.getfield 16, 3) := by decide +kernel
theorem dX1_part_25 : decode cX1_part 25 = .ok (.lreturn, 1) := by decide +kernel
theorem dX1_swapEnds_0 : decode cX1_swapEnds 0 = .ok (.aload_n 0, 1) := by decide +kernel
theorem dX1_swapEnds_1 : decode cX1_swapEnds 1 = .ok (.getfield 7, 3) := by decide +kernel
theorem dX1_swapEnds_4 : decode cX1_swapEnds 4 = .ok (.lstore_n 1, 1) := by decide +kernel
theorem dX1_swapEnds_5 : decode cX1_swapEnds 5 = .ok (.aload_n 0, 1) := by decide +kernel
theorem dX1_swapEnds_6 : decode cX1_swapEnds 6 = .ok (.aload_n 0, 1) := by decide +kernel
theorem dX1_swapEnds_7 : decode cX1_swapEnds 7 = .ok (.getfield 16, 3) := by decide +kernel
theorem dX1_swapEnds_10 : decode cX1_swapEnds 10 = .ok (.putfield 7, 3) := by decide +kernel
theorem dX1_swapEnds_13 : decode cX1_swapEnds 13 = .ok (.aload_n 0, 1) := by decide +kernel
theorem dX1_swapEnds_14 : decode cX1_swapEnds 14 = .ok (.aload_n 0, 1) := by decide +kernel
theorem dX1_swapEnds_15 : decode cX1_swapEnds 15 = .ok (.getfield 13, 3) := by decide +kernel
theorem dX1_swapEnds_18 : decode cX1_swapEnds 18 = .ok (.lneg, 1) := by decide +kernel
theorem dX1_swapEnds_19 : decode cX1_swapEnds 19 = .ok (.putfield 13, 3) := by decide +kernel
theorem dX1_swapEnds_22 : decode cX1_swapEnds 22 = .ok (.aload_n 0, 1) := by decide +kernel
theorem dX1_swapEnds_23 : decode cX1_swapEnds 23 = .ok (.lload_n 1, 1) := by decide +kernel
theorem dX1_swapEnds_24 : decode cX1_swapEnds 24 = .ok (.putfield 16, 3) := by decide +kernel
theorem dX1_swapEnds_27 : decode cX1_swapEnds 27 = .ok (.return_, 1) := by decide +kernel
theorem dX2_init_0 : decode cX2_init 0 = .ok (.aload_n 0, 1) := by decide +kernel
theorem dX2_init_1 : decode cX2_init 1 = .ok (.invokespecial 3, 3) := by decide +kernel
theorem dX2_init_4 : decode cX2_init 4 = .ok (.aload_n 0, 1) := by decide +kernel
theorem dX2_init_5 : decode cX2_init 5 = .ok (.bipush 7, 2) := by decide +kernel
theorem dX2_init_7 : decode cX2_init 7 = .ok (.putfield 9, 3) := by decide +kernel
theorem dX2_init_10 : decode cX2_init 10 = .ok (.aload_n 0, 1) := by decide +kernel
theorem dX2_init_11 : decode cX2_init 11 = .ok (.new 15, 3) := by decide +kernel
theorem dX2_init_14 : decode cX2_init 14 = .ok (.dup, 1) := by decide +kernel
theorem dX2_init_15 : decode cX2_init 15 = .ok (.invokespecial 17, 3) := by decide +kernel
theorem dX2_init_18 : decode cX2_init 18 = .ok (.putfield 18, 3) := by decide +kernel
theorem dX2_init_21 : decode cX2_init 21 = .ok (.aload_n 0, 1) := by decide +kernel
theorem dX2_init_22 : decode cX2_init 22 = .ok (.new 15, 3) := by decide +kernel
theorem dX2_init_25 : decode cX2_init 25 = .ok (.dup, 1) := by decide +kernel
theorem dX2_init_26 : decode cX2_init 26 = .ok (.invokespecial 17, 3) := by decide +kernel
theorem dX2_init_29 : decode cX2_init 29 = .ok (.putfield 22, 3) := by decide +kernel
theorem dX2_init_32 : decode cX2_init 32 = .ok (.aload_n 0, 1) := by decide +kernel
theorem dX2_init_33 : decode cX2_init 33 = .ok (.new 25, 3) := by decide +kernel
theorem dX2_init_36 : decode cX2_init 36 = .ok (.dup, 1) := by decide +kernel
theorem dX2_init_37 : decode cX2_init 37 = .ok (.invokespecial 27, 3) := by decide +kernel
theorem dX2_init_40 : decode cX2_init 40 = .ok (.putfield 28, 3) := by decide +kernel
theorem dX2_init_43 : decode cX2_init 43 = .ok (.aload_n 0, 1) := by decide +kernel
theorem dX2_init_44 : decode cX2_init 44 = .ok (.new 15, 3) := by decide +kernel
theorem dX2_init_47 : decode cX2_init 47 = .ok (.dup, 1) := by decide +kernel
theorem dX2_init_48 : decode cX2_init 48 = .ok (.invokespecial 17, 3) := by decide +kernel
theorem dX2_init_51 : decode cX2_init 51 = .ok (.putfield 32, 3) := by decide +kernel
theorem dX2_init_54 : decode cX2_init 54 = .ok (.aload_n 0, 1) := by decide +kernel
theorem dX2_init_55 : decode cX2_init 55 = .ok (.new 15, 3) := by decide +kernel
theorem dX2_init_58 : decode cX2_init 58 = .ok (.dup, 1) := by decide +kernel
theorem dX2_init_59 : decode cX2_init 59 = .ok (.invokespecial 17, 3) := by decide +kernel
theorem dX2_init_62 : decode cX2_init 62 = .ok (.putfield 35, 3) := by decide +kernel
theorem dX2_init_65 : decode cX2_init 65 = .ok (.aload_n 0, 1) := by decide +kernel
theorem dX2_init_66 : decode cX2_init 66 = .ok (.new 15, 3) := by decide +kernel
theorem dX2_init_69 : decode cX2_init 69 = .ok (.dup, 1) := by decide +kernel
theorem dX2_init_70 : decode cX2_init 70 = .ok (.invokespecial 17, 3) := by decide +kernel
theorem dX2_init_73 : decode cX2_init 73 = .ok (.putfield 38, 3) := by decide +kernel
theorem dX2_init_76 : decode cX2_init 76 = .ok (.aload_n 0, 1) := by decide +kernel
theorem dX2_init_77 : decode cX2_init 77 = .ok (.new 15, 3) := by decide +kernel
theorem dX2_init_80 : decode cX2_init 80 = .ok (.dup, 1) := by decide +kernel
theorem dX2_init_81 : decode cX2_init 81 = .ok (.invokespecial 17, 3) := by decide +kernel
theorem dX2_init_84 : decode cX2_init 84 = .ok (.putfield 41, 3) := by decide +kernel
theorem dX2_init_87 : decode cX2_init 87 = .ok (.aload_n 0, 1) := by decide +kernel
theorem dX2_init_88 : decode cX2_init 88 = .ok (.new 15, 3) := by decide +kernel
theorem dX2_init_91 : decode cX2_init 91 = .ok (.dup, 1) := by decide +kernel
theorem dX2_init_92 : decode cX2_init 92 = .ok (.invokespecial 17, 3) := by decide +kernel
theorem dX2_init_95 : decode cX2_init 95 = .ok (.putfield 44, 3) := by decide +kernel
theorem dX2_init_98 : decode cX2_init 98 = .ok (.aload_n 0, 1) := by decide +kernel
theorem dX2_init_99 : decode cX2_init 99 = .ok (.new 15, 3) := by decide +kernel
theorem dX2_init_102 : decode cX2_init 102 = .ok (.dup, 1) := by decide +kernel
theorem dX2_init_103 : decode cX2_init 103 = .ok (.invokespecial 17, 3) := by decide +kernel
theorem dX2_init_106 : decode cX2_init 106 = .ok (.putfield 47, 3) := by decide +kernel
theorem dX2_init_109 : decode cX2_init 109 = .ok (.return_, 1) := by decide +kernel
theorem dX2_choose_0 : decode cX2_choose 0 = .ok (.aload_n 0, 1) := by decide +kernel
theorem dX2_choose_1 : decode cX2_choose 1 = .ok (.iload_n 1, 1) := by decide +kernel
theorem dX2_choose_2 : decode cX2_choose 2 = .ok (.putfield 9, 3) := by decide +kernel
theorem dX2_choose_5 : decode cX2_choose 5 = .ok (.aload_n 0, 1) := by decide +kernel
theorem dX2_choose_6 : decode cX2_choose 6 = .ok (.aload_n 0, 1) := by decide +kernel
theorem dX2_choose_7 : decode cX2_choose 7 = .ok (.getfield 18, 3) := by decide +kernel
theorem dX2_choose_10 : decode cX2_choose 10 = .ok (.lconst 1, 1) := by decide +kernel
theorem dX2_choose_11 : decode cX2_choose 11 = .ok (.lconst 1, 1) := by decide +kernel
theorem dX2_choose_12 : decode cX2_choose 12 = .ok (.invokevirtual 50, 3) := by decide +kernel
theorem dX2_choose_15 : decode cX2_choose 15 = .ok (.aload_n 0, 1) := by decide +kernel
theorem dX2_choose_16 : decode cX2_choose 16 = .ok (.aload_n 0, 1) := by decide +kernel
theorem dX2_choose_17 : decode cX2_choose 17 = .ok (.getfield 22, 3) := by decide +kernel
theorem dX2_choose_20 : decode cX2_choose 20 = .ok (.ldc2_w 54, 3) := by decide +kernel
theorem dX2_choose_23 : decode cX2_choose 23 = .ok (.lconst 1, 1) := by decide +kernel
theorem dX2_choose_24 : decode cX2_choose 24 = .ok (.invokevirtual 50, 3) := by decide +kernel
theorem dX2_choose_27 : decode cX2_choose 27 = .ok (.aload_n 0, 1) := by decide +kernel
theorem dX2_choose_28 : decode cX2_choose 28 = .ok (.aload_n 0, 1) := by decide +kernel
theorem dX2_choose_29 : decode cX2_choose 29 = .ok (.getfield 22, 3) := by decide +kernel
theorem dX2_choose_32 : decode cX2_choose 32 = .ok (.invokevirtual 56, 3) := by decide +kernel
theorem dX2_choose_35 : decode cX2_choose 35 = .ok (.return_, 1) := by decide +kernel
theorem dX2_complete_0 : decode cX2_complete 0 = .ok (.aload_n 1, 1) := by decide +kernel
theorem dX2_complete_1 : decode cX2_complete 1 = .ok (.lload_n 2, 1) := by decide +kernel
theorem dX2_complete_2 : decode cX2_complete 2 = .ok (.putfield 60, 3) := by decide +kernel
theorem dX2_complete_5 : decode cX2_complete 5 = .ok (.aload_n 1, 1) := by decide +kernel
theorem dX2_complete_6 : decode cX2_complete 6 = .ok (.lload 4, 2) := by decide +kernel
theorem dX2_complete_8 : decode cX2_complete 8 = .ok (.putfield 64, 3) := by decide +kernel
theorem dX2_complete_11 : decode cX2_complete 11 = .ok (.aload_n 1, 1) := by decide +kernel
theorem dX2_complete_12 : decode cX2_complete 12 = .ok (.lload 4, 2) := by decide +kernel
theorem dX2_complete_14 : decode cX2_complete 14 = .ok (.lload 4, 2) := by decide +kernel
theorem dX2_complete_16 : decode cX2_complete 16 = .ok (.lmul, 1) := by decide +kernel
theorem dX2_complete_17 : decode cX2_complete 17 = .ok (.aload_n 0, 1) := by decide +kernel
theorem dX2_complete_18 : decode cX2_complete 18 = .ok (.getfield 9, 3) := by decide +kernel
theorem dX2_complete_21 : decode cX2_complete 21 = .ok (.i2l, 1) := by decide +kernel
theorem dX2_complete_22 : decode cX2_complete 22 = .ok (.ladd, 1) := by decide +kernel
theorem dX2_complete_23 : decode cX2_complete 23 = .ok (.ldc2_w 67, 3) := by decide +kernel
theorem dX2_complete_26 : decode cX2_complete 26 = .ok (.lload_n 2, 1) := by decide +kernel
theorem dX2_complete_27 : decode cX2_complete 27 = .ok (.lmul, 1) := by decide +kernel
theorem dX2_complete_28 : decode cX2_complete 28 = .ok (.invokestatic 69, 3) := by decide +kernel
theorem dX2_complete_31 : decode cX2_complete 31 = .ok (.putfield 73, 3) := by decide +kernel
theorem dX2_complete_34 : decode cX2_complete 34 = .ok (.return_, 1) := by decide +kernel
theorem dX2_hasForm_0 : decode cX2_hasForm 0 = .ok (.lload_n 3, 1) := by decide +kernel
theorem dX2_hasForm_1 : decode cX2_hasForm 1 = .ok (.lload_n 3, 1) := by decide +kernel
theorem dX2_hasForm_2 : decode cX2_hasForm 2 = .ok (.lmul, 1) := by decide +kernel
theorem dX2_hasForm_3 : decode cX2_hasForm 3 = .ok (.aload_n 0, 1) := by decide +kernel
theorem dX2_hasForm_4 : decode cX2_hasForm 4 = .ok (.getfield 9, 3) := by decide +kernel
theorem dX2_hasForm_7 : decode cX2_hasForm 7 = .ok (.i2l, 1) := by decide +kernel
theorem dX2_hasForm_8 : decode cX2_hasForm 8 = .ok (.ladd, 1) := by decide +kernel
theorem dX2_hasForm_9 : decode cX2_hasForm 9 = .ok (.lstore 5, 2) := by decide +kernel
theorem dX2_hasForm_11 : decode cX2_hasForm 11 = .ok (.lload 5, 2) := by decide +kernel
theorem dX2_hasForm_13 : decode cX2_hasForm 13 = .ok (.ldc2_w 67, 3) := by decide +kernel
theorem dX2_hasForm_16 : decode cX2_hasForm 16 = .ok (.lload_n 1, 1) := by decide +kernel
theorem dX2_hasForm_17 : decode cX2_hasForm 17 = .ok (.lmul, 1) := by decide +kernel
theorem dX2_hasForm_18 : decode cX2_hasForm 18 = .ok (.invokestatic 76, 3) := by decide +kernel
theorem dX2_hasForm_21 : decode cX2_hasForm 21 = .ok (.lconst 0, 1) := by decide +kernel
theorem dX2_hasForm_22 : decode cX2_hasForm 22 = .ok (.lcmp, 1) := by decide +kernel
theorem dX2_hasForm_23 : decode cX2_hasForm 23 = .ok (.ifCond .ne 26, 3) := by decide +kernel
theorem dX2_hasForm_26 : decode cX2_hasForm 26 = .ok (.aload_n 0, 1) := by decide +kernel
theorem dX2_hasForm_27 : decode cX2_hasForm 27 = .ok (.lload_n 1, 1) := by decide +kernel
theorem dX2_hasForm_28 : decode cX2_hasForm 28 = .ok (.lload_n 3, 1) := by decide +kernel
theorem dX2_hasForm_29 : decode cX2_hasForm 29 = .ok (.lload 5, 2) := by decide +kernel
theorem dX2_hasForm_31 : decode cX2_hasForm 31 = .ok (.ldc2_w 67, 3) := by decide +kernel
theorem dX2_hasForm_34 : decode cX2_hasForm 34 = .ok (.lload_n 1, 1) := by decide +kernel
theorem dX2_hasForm_35 : decode cX2_hasForm 35 = .ok (.lmul, 1) := by decide +kernel
theorem dX2_hasForm_36 : decode cX2_hasForm 36 = .ok (.invokestatic 69, 3) := by decide +kernel
theorem dX2_hasForm_39 : decode cX2_hasForm 39 = .ok (.invokevirtual 79, 3) := by decide +kernel
theorem dX2_hasForm_42 : decode cX2_hasForm 42 = .ok (.ifCond .eq 7, 3) := by decide +kernel
theorem dX2_hasForm_45 : decode cX2_hasForm 45 = .ok (.iconst 1, 1) := by decide +kernel
theorem dX2_hasForm_46 : decode cX2_hasForm 46 = .ok (.goto 4, 3) := by decide +kernel
theorem dX2_hasForm_49 : decode cX2_hasForm 49 = .ok (.iconst 0, 1) := by decide +kernel
theorem dX2_hasForm_50 : decode cX2_hasForm 50 = .ok (.ireturn, 1) := by decide +kernel
theorem dX2_hasNoCommonDivisor_0 : decode cX2_hasNoCommonDivisor 0 = .ok (.aload_n 0, 1) := by decide +kernel
theorem dX2_hasNoCommonDivisor_1 : decode cX2_hasNoCommonDivisor 1 = .ok (.getfield 28, 3) := by decide +kernel
theorem dX2_hasNoCommonDivisor_4 : decode cX2_hasNoCommonDivisor 4 = .ok (.lload_n 1, 1) := by decide +kernel
theorem dX2_hasNoCommonDivisor_5 : decode cX2_hasNoCommonDivisor 5 = .ok (.lload_n 3, 1) := by decide +kernel
theorem dX2_hasNoCommonDivisor_6 : decode cX2_hasNoCommonDivisor 6 = .ok (.invokevirtual 83, 3) := by decide +kernel
theorem dX2_hasNoCommonDivisor_9 : decode cX2_hasNoCommonDivisor 9 = .ok (.aload_n 0, 1) := by decide +kernel
theorem dX2_hasNoCommonDivisor_10 : decode cX2_hasNoCommonDivisor 10 = .ok (.getfield 28, 3) := by decide +kernel
theorem dX2_hasNoCommonDivisor_13 : decode cX2_hasNoCommonDivisor 13 = .ok (.aload_n 0, 1) := by decide +kernel
theorem dX2_hasNoCommonDivisor_14 : decode cX2_hasNoCommonDivisor 14 = .ok (.getfield 28, 3) := by decide +kernel
theorem dX2_hasNoCommonDivisor_17 : decode cX2_hasNoCommonDivisor 17 = .ok (.getfield 87, 3) := by decide +kernel
theorem dX2_hasNoCommonDivisor_20 : decode cX2_hasNoCommonDivisor 20 = .ok (.lload 5, 2) := by decide +kernel
theorem dX2_hasNoCommonDivisor_22 : decode cX2_hasNoCommonDivisor 22 = .ok (.invokevirtual 83, 3) := by decide +kernel
theorem dX2_hasNoCommonDivisor_25 : decode cX2_hasNoCommonDivisor 25 = .ok (.aload_n 0, 1) := by decide +kernel
theorem dX2_hasNoCommonDivisor_26 : decode cX2_hasNoCommonDivisor 26 = .ok (.getfield 28, 3) := by decide +kernel
theorem dX2_hasNoCommonDivisor_29 : decode cX2_hasNoCommonDivisor 29 = .ok (.getfield 87, 3) := by decide +kernel
theorem dX2_hasNoCommonDivisor_32 : decode cX2_hasNoCommonDivisor 32 = .ok (.lconst 1, 1) := by decide +kernel
theorem dX2_hasNoCommonDivisor_33 : decode cX2_hasNoCommonDivisor 33 = .ok (.lcmp, 1) := by decide +kernel
theorem dX2_hasNoCommonDivisor_34 : decode cX2_hasNoCommonDivisor 34 = .ok (.ifCond .ne 7, 3) := by decide +kernel
theorem dX2_hasNoCommonDivisor_37 : decode cX2_hasNoCommonDivisor 37 = .ok (.iconst 1, 1) := by decide +kernel
theorem dX2_hasNoCommonDivisor_38 : decode cX2_hasNoCommonDivisor 38 = .ok (.goto 4, 3) := by decide +kernel
theorem dX2_hasNoCommonDivisor_41 : decode cX2_hasNoCommonDivisor 41 = .ok (.iconst 0, 1) := by decide +kernel
theorem dX2_hasNoCommonDivisor_42 : decode cX2_hasNoCommonDivisor 42 = .ok (.ireturn, 1) := by decide +kernel
theorem dX2_settle_0 : decode cX2_settle 0 = .ok (.iconst 0, 1) := by decide +kernel
theorem dX2_settle_1 : decode cX2_settle 1 = .ok (.istore_n 2, 1) := by decide +kernel
theorem dX2_settle_2 : decode cX2_settle 2 = .ok (.iload_n 2, 1) := by decide +kernel
theorem dX2_settle_3 : decode cX2_settle 3 = .ok (.ldc 90, 2) := by decide +kernel
theorem dX2_settle_5 : decode cX2_settle 5 = .ok (.if_icmp .ge 37, 3) := by decide +kernel
theorem dX2_settle_8 : decode cX2_settle 8 = .ok (.aload_n 1, 1) := by decide +kernel
theorem dX2_settle_9 : decode cX2_settle 9 = .ok (.invokevirtual 91, 3) := by decide +kernel
theorem dX2_settle_12 : decode cX2_settle 12 = .ok (.ifCond .ne 30, 3) := by decide +kernel
theorem dX2_settle_15 : decode cX2_settle 15 = .ok (.aload_n 1, 1) := by decide +kernel
theorem dX2_settle_16 : decode cX2_settle 16 = .ok (.getfield 60, 3) := by decide +kernel
theorem dX2_settle_19 : decode cX2_settle 19 = .ok (.aload_n 1, 1) := by decide +kernel
theorem dX2_settle_20 : decode cX2_settle 20 = .ok (.getfield 73, 3) := by decide +kernel
theorem dX2_settle_23 : decode cX2_settle 23 = .ok (.lcmp, 1) := by decide +kernel
theorem dX2_settle_24 : decode cX2_settle 24 = .ok (.ifCond .lt 7, 3) := by decide +kernel
theorem dX2_settle_27 : decode cX2_settle 27 = .ok (.aload_n 1, 1) := by decide +kernel
theorem dX2_settle_28 : decode cX2_settle 28 = .ok (.invokevirtual 95, 3) := by decide +kernel
theorem dX2_settle_31 : decode cX2_settle 31 = .ok (.aload_n 0, 1) := by decide +kernel
theorem dX2_settle_32 : decode cX2_settle 32 = .ok (.aload_n 1, 1) := by decide +kernel
theorem dX2_settle_33 : decode cX2_settle 33 = .ok (.invokevirtual 98, 3) := by decide +kernel
theorem dX2_settle_36 : decode cX2_settle 36 = .ok (.iinc 2 1, 3) := by decide +kernel
theorem dX2_settle_39 : decode cX2_settle 39 = .ok (.goto (-37), 3) := by decide +kernel
theorem dX2_settle_42 : decode cX2_settle 42 = .ok (.return_, 1) := by decide +kernel
theorem dX2_bringBNearZero_0 : decode cX2_bringBNearZero 0 = .ok (.aload_n 1, 1) := by decide +kernel
theorem dX2_bringBNearZero_1 : decode cX2_bringBNearZero 1 = .ok (.aload_n 1, 1) := by decide +kernel
theorem dX2_bringBNearZero_2 : decode cX2_bringBNearZero 2 = .ok (.getfield 60, 3) := by decide +kernel
theorem dX2_bringBNearZero_5 : decode cX2_bringBNearZero 5 = .ok (.aload_n 1, 1) := by decide +kernel
theorem dX2_bringBNearZero_6 : decode cX2_bringBNearZero 6 = .ok (.getfield 60, 3) := by decide +kernel
theorem dX2_bringBNearZero_9 : decode cX2_bringBNearZero 9 = .ok (.aload_n 1, 1) := by decide +kernel
theorem dX2_bringBNearZero_10 : decode cX2_bringBNearZero 10 = .ok (.getfield 64, 3) := by decide +kernel
theorem dX2_bringBNearZero_13 : decode cX2_bringBNearZero 13 = .ok (.lsub, 1) := by decide +kernel
theorem dX2_bringBNearZero_14 : decode cX2_bringBNearZero 14 = .ok (.ldc2_w 54, 3) := by decide +kernel
theorem dX2_bringBNearZero_17 : decode cX2_bringBNearZero 17 = .ok (.aload_n 1, 1) := by decide +kernel
theorem dX2_bringBNearZero_18 : decode cX2_bringBNearZero 18 = .ok (.getfield 60, 3) := by decide +kernel
theorem dX2_bringBNearZero_21 : decode cX2_bringBNearZero 21 = .ok (.lmul, 1) := by decide +kernel
theorem dX2_bringBNearZero_22 : decode cX2_bringBNearZero 22 = .ok (.invokestatic 76, 3) := by decide +kernel
theorem dX2_bringBNearZero_25 : decode cX2_bringBNearZero 25 = .ok (.lsub, 1) := by decide +kernel
theorem dX2_bringBNearZero_26 : decode cX2_bringBNearZero 26 = .ok (.putfield 64, 3) := by decide +kernel
theorem dX2_bringBNearZero_29 : decode cX2_bringBNearZero 29 = .ok (.aload_n 1, 1) := by decide +kernel
theorem dX2_bringBNearZero_30 : decode cX2_bringBNearZero 30 = .ok (.aload_n 1, 1) := by decide +kernel
theorem dX2_bringBNearZero_31 : decode cX2_bringBNearZero 31 = .ok (.getfield 64, 3) := by decide +kernel
theorem dX2_bringBNearZero_34 : decode cX2_bringBNearZero 34 = .ok (.aload_n 1, 1) := by decide +kernel
theorem dX2_bringBNearZero_35 : decode cX2_bringBNearZero 35 = .ok (.getfield 64, 3) := by decide +kernel
theorem dX2_bringBNearZero_38 : decode cX2_bringBNearZero 38 = .ok (.lmul, 1) := by decide +kernel
theorem dX2_bringBNearZero_39 : decode cX2_bringBNearZero 39 = .ok (.aload_n 0, 1) := by decide +kernel
theorem dX2_bringBNearZero_40 : decode cX2_bringBNearZero 40 = .ok (.getfield 9, 3) := by decide +kernel
theorem dX2_bringBNearZero_43 : decode cX2_bringBNearZero 43 = .ok (.i2l, 1) := by decide +kernel
theorem dX2_bringBNearZero_44 : decode cX2_bringBNearZero 44 = .ok (.ladd, 1) := by decide +kernel
theorem dX2_bringBNearZero_45 : decode cX2_bringBNearZero 45 = .ok (.ldc2_w 67, 3) := by decide +kernel
theorem dX2_bringBNearZero_48 : decode cX2_bringBNearZero 48 = .ok (.aload_n 1, 1) := by decide +kernel
theorem dX2_bringBNearZero_49 : decode cX2_bringBNearZero 49 = .ok (.getfield 60, 3) := by decide +kernel
theorem dX2_bringBNearZero_52 : decode cX2_bringBNearZero 52 = .ok (.lmul, 1) := by decide +kernel
theorem dX2_bringBNearZero_53 : decode cX2_bringBNearZero 53 = .ok (.invokestatic 69, 3) := by decide +kernel
theorem dX2_bringBNearZero_56 : decode cX2_bringBNearZero 56 = .ok (.putfield 73, 3) := by decide +kernel
theorem dX2_bringBNearZero_59 : decode cX2_bringBNearZero 59 = .ok (.return_, 1) := by decide +kernel
theorem dX2_product_0 : decode cX2_product 0 = .ok (.aload_n 0, 1) := by decide +kernel
theorem dX2_product_1 : decode cX2_product 1 = .ok (.getfield 32, 3) := by decide +kernel
theorem dX2_product_4 : decode cX2_product 4 = .ok (.aload_n 1, 1) := by decide +kernel
theorem dX2_product_5 : decode cX2_product 5 = .ok (.invokevirtual 101, 3) := by decide +kernel
theorem dX2_product_8 : decode cX2_product 8 = .ok (.aload_n 0, 1) := by decide +kernel
theorem dX2_product_9 : decode cX2_product 9 = .ok (.aload_n 0, 1) := by decide +kernel
theorem dX2_product_10 : decode cX2_product 10 = .ok (.getfield 32, 3) := by decide +kernel
theorem dX2_product_13 : decode cX2_product 13 = .ok (.invokevirtual 56, 3) := by decide +kernel
theorem dX2_product_16 : decode cX2_product 16 = .ok (.aload_n 0, 1) := by decide +kernel
theorem dX2_product_17 : decode cX2_product 17 = .ok (.getfield 35, 3) := by decide +kernel
theorem dX2_product_20 : decode cX2_product 20 = .ok (.aload_n 2, 1) := by decide +kernel
theorem dX2_product_21 : decode cX2_product 21 = .ok (.invokevirtual 101, 3) := by decide +kernel
theorem dX2_product_24 : decode cX2_product 24 = .ok (.aload_n 0, 1) := by decide +kernel
theorem dX2_product_25 : decode cX2_product 25 = .ok (.aload_n 0, 1) := by decide +kernel
theorem dX2_product_26 : decode cX2_product 26 = .ok (.getfield 35, 3) := by decide +kernel
theorem dX2_product_29 : decode cX2_product 29 = .ok (.invokevirtual 56, 3) := by decide +kernel
theorem dX2_product_32 : decode cX2_product 32 = .ok (.aload_n 0, 1) := by decide +kernel
theorem dX2_product_33 : decode cX2_product 33 = .ok (.getfield 32, 3) := by decide +kernel
theorem dX2_product_36 : decode cX2_product 36 = .ok (.getfield 64, 3) := by decide +kernel
theorem dX2_product_39 : decode cX2_product 39 = .ok (.aload_n 0, 1) := by decide +kernel
theorem dX2_product_40 : decode cX2_product 40 = .ok (.getfield 35, 3) := by decide +kernel
theorem dX2_product_43 : decode cX2_product 43 = .ok (.getfield 64, 3) := by decide +kernel
theorem dX2_product_46 : decode cX2_product 46 = .ok (.ladd, 1) := by decide +kernel
theorem dX2_product_47 : decode cX2_product 47 = .ok (.ldc2_w 54, 3) := by decide +kernel
theorem dX2_product_50 : decode cX2_product 50 = .ok (.ldiv, 1) := by decide +kernel
theorem dX2_product_51 : decode cX2_product 51 = .ok (.lstore 4, 2) := by decide +kernel
theorem dX2_product_53 : decode cX2_product 53 = .ok (.aload_n 0, 1) := by decide +kernel
theorem dX2_product_54 : decode cX2_product 54 = .ok (.getfield 28, 3) := by decide +kernel
theorem dX2_product_57 : decode cX2_product 57 = .ok (.aload_n 0, 1) := by decide +kernel
theorem dX2_product_58 : decode cX2_product 58 = .ok (.getfield 32, 3) := by decide +kernel
theorem dX2_product_61 : decode cX2_product 61 = .ok (.getfield 60, 3) := by decide +kernel
theorem dX2_product_64 : decode cX2_product 64 = .ok (.aload_n 0, 1) := by decide +kernel
theorem dX2_product_65 : decode cX2_product 65 = .ok (.getfield 35, 3) := by decide +kernel
theorem dX2_product_68 : decode cX2_product 68 = .ok (.getfield 60, 3) := by decide +kernel
theorem dX2_product_71 : decode cX2_product 71 = .ok (.invokevirtual 83, 3) := by decide +kernel
theorem dX2_product_74 : decode cX2_product 74 = .ok (.aload_n 0, 1) := by decide +kernel
theorem dX2_product_75 : decode cX2_product 75 = .ok (.getfield 28, 3) := by decide +kernel
theorem dX2_product_78 : decode cX2_product 78 = .ok (.getfield 104, 3) := by decide +kernel
theorem dX2_product_81 : decode cX2_product 81 = .ok (.lstore 6, 2) := by decide +kernel
theorem dX2_product_83 : decode cX2_product 83 = .ok (.aload_n 0, 1) := by decide +kernel
theorem dX2_product_84 : decode cX2_product 84 = .ok (.getfield 28, 3) := by decide +kernel
theorem dX2_product_87 : decode cX2_product 87 = .ok (.aload_n 0, 1) := by decide +kernel
theorem dX2_product_88 : decode cX2_product 88 = .ok (.getfield 28, 3) := by decide +kernel
theorem dX2_product_91 : decode cX2_product 91 = .ok (.getfield 87, 3) := by decide +kernel
theorem dX2_product_94 : decode cX2_product 94 = .ok (.lload 4, 2) := by decide +kernel
theorem dX2_product_96 : decode cX2_product 96 = .ok (.invokevirtual 83, 3) := by decide +kernel
theorem dX2_product_99 : decode cX2_product 99 = .ok (.aload_n 0, 1) := by decide +kernel
theorem dX2_product_100 : decode cX2_product 100 = .ok (.getfield 28, 3) := by decide +kernel
theorem dX2_product_103 : decode cX2_product 103 = .ok (.getfield 87, 3) := by decide +kernel
theorem dX2_product_106 : decode cX2_product 106 = .ok (.lstore 8, 2) := by decide +kernel
theorem dX2_product_108 : decode cX2_product 108 = .ok (.aload_n 0, 1) := by decide +kernel
theorem dX2_product_109 : decode cX2_product 109 = .ok (.getfield 32, 3) := by decide +kernel
theorem dX2_product_112 : decode cX2_product 112 = .ok (.getfield 60, 3) := by decide +kernel
theorem dX2_product_115 : decode cX2_product 115 = .ok (.lload 8, 2) := by decide +kernel
theorem dX2_product_117 : decode cX2_product 117 = .ok (.invokestatic 69, 3) := by decide +kernel
theorem dX2_product_120 : decode cX2_product 120 = .ok (.lstore 10, 2) := by decide +kernel
theorem dX2_product_122 : decode cX2_product 122 = .ok (.aload_n 0, 1) := by decide +kernel
theorem dX2_product_123 : decode cX2_product 123 = .ok (.getfield 35, 3) := by decide +kernel
theorem dX2_product_126 : decode cX2_product 126 = .ok (.getfield 60, 3) := by decide +kernel
theorem dX2_product_129 : decode cX2_product 129 = .ok (.lload 8, 2) := by decide +kernel
theorem dX2_product_131 : decode cX2_product 131 = .ok (.invokestatic 69, 3) := by decide +kernel
theorem dX2_product_134 : decode cX2_product 134 = .ok (.lstore 12, 2) := by decide +kernel
theorem dX2_product_136 : decode cX2_product 136 = .ok (.aload_n 0, 1) := by decide +kernel
theorem dX2_product_137 : decode cX2_product 137 = .ok (.getfield 28, 3) := by decide +kernel
theorem dX2_product_140 : decode cX2_product 140 = .ok (.getfield 107, 3) := by decide +kernel
theorem dX2_product_143 : decode cX2_product 143 = .ok (.lload 6, 2) := by decide +kernel
theorem dX2_product_145 : decode cX2_product 145 = .ok (.lmul, 1) := by decide +kernel
theorem dX2_product_146 : decode cX2_product 146 = .ok (.lload 4, 2) := by decide +kernel
theorem dX2_product_148 : decode cX2_product 148 = .ok (.aload_n 0, 1) := by decide +kernel
theorem dX2_product_149 : decode cX2_product 149 = .ok (.getfield 35, 3) := by decide +kernel
theorem dX2_product_152 : decode cX2_product 152 = .ok (.getfield 64, 3) := by decide +kernel
theorem dX2_product_155 : decode cX2_product 155 = .ok (.lsub, 1) := by decide +kernel
theorem dX2_product_156 : decode cX2_product 156 = .ok (.lmul, 1) := by decide +kernel
theorem dX2_product_157 : decode cX2_product 157 = .ok (.aload_n 0, 1) := by decide +kernel
theorem dX2_product_158 : decode cX2_product 158 = .ok (.getfield 28, 3) := by decide +kernel
theorem dX2_product_161 : decode cX2_product 161 = .ok (.getfield 104, 3) := by decide +kernel
theorem dX2_product_164 : decode cX2_product 164 = .ok (.aload_n 0, 1) := by decide +kernel
theorem dX2_product_165 : decode cX2_product 165 = .ok (.getfield 35, 3) := by decide +kernel
theorem dX2_product_168 : decode cX2_product 168 = .ok (.getfield 73, 3) := by decide +kernel
theorem dX2_product_171 : decode cX2_product 171 = .ok (.lmul, 1) := by decide +kernel
theorem dX2_product_172 : decode cX2_product 172 = .ok (.lsub, 1) := by decide +kernel
theorem dX2_product_173 : decode cX2_product 173 = .ok (.lstore 14, 2) := by decide +kernel
theorem dX2_product_175 : decode cX2_product 175 = .ok (.aload_n 0, 1) := by decide +kernel
theorem dX2_product_176 : decode cX2_product 176 = .ok (.aload_n 3, 1) := by decide +kernel
theorem dX2_product_177 : decode cX2_product 177 = .ok (.lload 10, 2) := by decide +kernel
theorem dX2_product_179 : decode cX2_product 179 = .ok (.lload 12, 2) := by decide +kernel
theorem dX2_product_181 : decode cX2_product 181 = .ok (.lmul, 1) := by decide +kernel
theorem dX2_product_182 : decode cX2_product 182 = .ok (.aload_n 0, 1) := by decide +kernel
theorem dX2_product_183 : decode cX2_product 183 = .ok (.getfield 35, 3) := by decide +kernel
theorem dX2_product_186 : decode cX2_product 186 = .ok (.getfield 64, 3) := by decide +kernel
theorem dX2_product_189 : decode cX2_product 189 = .ok (.ldc2_w 54, 3) := by decide +kernel
theorem dX2_product_192 : decode cX2_product 192 = .ok (.lload 12, 2) := by decide +kernel
theorem dX2_product_194 : decode cX2_product 194 = .ok (.lmul, 1) := by decide +kernel
theorem dX2_product_195 : decode cX2_product 195 = .ok (.lload 14, 2) := by decide +kernel
theorem dX2_product_197 : decode cX2_product 197 = .ok (.lload 10, 2) := by decide +kernel
theorem dX2_product_199 : decode cX2_product 199 = .ok (.invokestatic 76, 3) := by decide +kernel
theorem dX2_product_202 : decode cX2_product 202 = .ok (.lmul, 1) := by decide +kernel
theorem dX2_product_203 : decode cX2_product 203 = .ok (.ladd, 1) := by decide +kernel
theorem dX2_product_204 : decode cX2_product 204 = .ok (.invokevirtual 50, 3) := by decide +kernel
theorem dX2_product_207 : decode cX2_product 207 = .ok (.aload_n 0, 1) := by decide +kernel
theorem dX2_product_208 : decode cX2_product 208 = .ok (.aload_n 3, 1) := by decide +kernel
theorem dX2_product_209 : decode cX2_product 209 = .ok (.invokevirtual 56, 3) := by decide +kernel
theorem dX2_product_212 : decode cX2_product 212 = .ok (.return_, 1) := by decide +kernel
theorem dX2_power_0 : decode cX2_power 0 = .ok (.aload_n 0, 1) := by decide +kernel
theorem dX2_power_1 : decode cX2_power 1 = .ok (.getfield 38, 3) := by decide +kernel
theorem dX2_power_4 : decode cX2_power 4 = .ok (.aload_n 1, 1) := by decide +kernel
theorem dX2_power_5 : decode cX2_power 5 = .ok (.invokevirtual 101, 3) := by decide +kernel
theorem dX2_power_8 : decode cX2_power 8 = .ok (.aload_n 0, 1) := by decide +kernel
theorem dX2_power_9 : decode cX2_power 9 = .ok (.getfield 41, 3) := by decide +kernel
theorem dX2_power_12 : decode cX2_power 12 = .ok (.aload_n 0, 1) := by decide +kernel
theorem dX2_power_13 : decode cX2_power 13 = .ok (.getfield 18, 3) := by decide +kernel
theorem dX2_power_16 : decode cX2_power 16 = .ok (.invokevirtual 101, 3) := by decide +kernel
theorem dX2_power_19 : decode cX2_power 19 = .ok (.iload_n 2, 1) := by decide +kernel
theorem dX2_power_20 : decode cX2_power 20 = .ok (.istore 4, 2) := by decide +kernel
theorem dX2_power_22 : decode cX2_power 22 = .ok (.iload 4, 2) := by decide +kernel
theorem dX2_power_24 : decode cX2_power 24 = .ok (.ifCond .le 52, 3) := by decide +kernel
theorem dX2_power_27 : decode cX2_power 27 = .ok (.iload 4, 2) := by decide +kernel
theorem dX2_power_29 : decode cX2_power 29 = .ok (.iconst 1, 1) := by decide +kernel
theorem dX2_power_30 : decode cX2_power 30 = .ok (.iand, 1) := by decide +kernel
theorem dX2_power_31 : decode cX2_power 31 = .ok (.iconst 1, 1) := by decide +kernel
theorem dX2_power_32 : decode cX2_power 32 = .ok (.if_icmp .ne 19, 3) := by decide +kernel
theorem dX2_power_35 : decode cX2_power 35 = .ok (.aload_n 0, 1) := by decide +kernel
theorem dX2_power_36 : decode cX2_power 36 = .ok (.aload_n 0, 1) := by decide +kernel
theorem dX2_power_37 : decode cX2_power 37 = .ok (.getfield 41, 3) := by decide +kernel
theorem dX2_power_40 : decode cX2_power 40 = .ok (.aload_n 0, 1) := by decide +kernel
theorem dX2_power_41 : decode cX2_power 41 = .ok (.getfield 38, 3) := by decide +kernel
theorem dX2_power_44 : decode cX2_power 44 = .ok (.aload_n 0, 1) := by decide +kernel
theorem dX2_power_45 : decode cX2_power 45 = .ok (.getfield 41, 3) := by decide +kernel
theorem dX2_power_48 : decode cX2_power 48 = .ok (.invokevirtual 110, 3) := by decide +kernel
theorem dX2_power_51 : decode cX2_power 51 = .ok (.aload_n 0, 1) := by decide +kernel
theorem dX2_power_52 : decode cX2_power 52 = .ok (.aload_n 0, 1) := by decide +kernel
theorem dX2_power_53 : decode cX2_power 53 = .ok (.getfield 38, 3) := by decide +kernel
theorem dX2_power_56 : decode cX2_power 56 = .ok (.aload_n 0, 1) := by decide +kernel
theorem dX2_power_57 : decode cX2_power 57 = .ok (.getfield 38, 3) := by decide +kernel
theorem dX2_power_60 : decode cX2_power 60 = .ok (.aload_n 0, 1) := by decide +kernel
theorem dX2_power_61 : decode cX2_power 61 = .ok (.getfield 38, 3) := by decide +kernel
theorem dX2_power_64 : decode cX2_power 64 = .ok (.invokevirtual 110, 3) := by decide +kernel
theorem dX2_power_67 : decode cX2_power 67 = .ok (.iload 4, 2) := by decide +kernel
theorem dX2_power_69 : decode cX2_power 69 = .ok (.iconst 1, 1) := by decide +kernel
theorem dX2_power_70 : decode cX2_power 70 = .ok (.ishr, 1) := by decide +kernel
theorem dX2_power_71 : decode cX2_power 71 = .ok (.istore 4, 2) := by decide +kernel
theorem dX2_power_73 : decode cX2_power 73 = .ok (.goto (-51), 3) := by decide +kernel
theorem dX2_power_76 : decode cX2_power 76 = .ok (.aload_n 3, 1) := by decide +kernel
theorem dX2_power_77 : decode cX2_power 77 = .ok (.aload_n 0, 1) := by decide +kernel
theorem dX2_power_78 : decode cX2_power 78 = .ok (.getfield 41, 3) := by decide +kernel
theorem dX2_power_81 : decode cX2_power 81 = .ok (.invokevirtual 101, 3) := by decide +kernel
theorem dX2_power_84 : decode cX2_power 84 = .ok (.return_, 1) := by decide +kernel
theorem dX2_isGeneratorsPower_0 : decode cX2_isGeneratorsPower 0 = .ok (.aload_n 0, 1) := by decide +kernel
theorem dX2_isGeneratorsPower_1 : decode cX2_isGeneratorsPower 1 = .ok (.aload_n 0, 1) := by decide +kernel
theorem dX2_isGeneratorsPower_2 : decode cX2_isGeneratorsPower 2 = .ok (.getfield 22, 3) := by decide +kernel
theorem dX2_isGeneratorsPower_5 : decode cX2_isGeneratorsPower 5 = .ok (.iload_n 2, 1) := by decide +kernel
theorem dX2_isGeneratorsPower_6 : decode cX2_isGeneratorsPower 6 = .ok (.aload_n 0, 1) := by decide +kernel
theorem dX2_isGeneratorsPower_7 : decode cX2_isGeneratorsPower 7 = .ok (.getfield 44, 3) := by decide +kernel
theorem dX2_isGeneratorsPower_10 : decode cX2_isGeneratorsPower 10 = .ok (.invokevirtual 114, 3) := by decide +kernel
theorem dX2_isGeneratorsPower_13 : decode cX2_isGeneratorsPower 13 = .ok (.aload_n 0, 1) := by decide +kernel
theorem dX2_isGeneratorsPower_14 : decode cX2_isGeneratorsPower 14 = .ok (.getfield 44, 3) := by decide +kernel
theorem dX2_isGeneratorsPower_17 : decode cX2_isGeneratorsPower 17 = .ok (.aload_n 1, 1) := by decide +kernel
theorem dX2_isGeneratorsPower_18 : decode cX2_isGeneratorsPower 18 = .ok (.invokevirtual 118, 3) := by decide +kernel
theorem dX2_isGeneratorsPower_21 : decode cX2_isGeneratorsPower 21 = .ok (.ireturn, 1) := by decide +kernel
theorem dX2_holds_0 : decode cX2_holds 0 = .ok (.aload_n 0, 1) := by decide +kernel
theorem dX2_holds_1 : decode cX2_holds 1 = .ok (.aload_n 3, 1) := by decide +kernel
theorem dX2_holds_2 : decode cX2_holds 2 = .ok (.iload 4, 2) := by decide +kernel
theorem dX2_holds_4 : decode cX2_holds 4 = .ok (.aload_n 0, 1) := by decide +kernel
theorem dX2_holds_5 : decode cX2_holds 5 = .ok (.getfield 44, 3) := by decide +kernel
theorem dX2_holds_8 : decode cX2_holds 8 = .ok (.invokevirtual 114, 3) := by decide +kernel
theorem dX2_holds_11 : decode cX2_holds 11 = .ok (.aload_n 0, 1) := by decide +kernel
theorem dX2_holds_12 : decode cX2_holds 12 = .ok (.aload_n 1, 1) := by decide +kernel
theorem dX2_holds_13 : decode cX2_holds 13 = .ok (.aload_n 0, 1) := by decide +kernel
theorem dX2_holds_14 : decode cX2_holds 14 = .ok (.iload 5, 2) := by decide +kernel
theorem dX2_holds_16 : decode cX2_holds 16 = .ok (.iload 4, 2) := by decide +kernel
theorem dX2_holds_18 : decode cX2_holds 18 = .ok (.invokevirtual 122, 3) := by decide +kernel
theorem dX2_holds_21 : decode cX2_holds 21 = .ok (.aload_n 0, 1) := by decide +kernel
theorem dX2_holds_22 : decode cX2_holds 22 = .ok (.getfield 47, 3) := by decide +kernel
theorem dX2_holds_25 : decode cX2_holds 25 = .ok (.invokevirtual 114, 3) := by decide +kernel
theorem dX2_holds_28 : decode cX2_holds 28 = .ok (.aload_n 0, 1) := by decide +kernel
theorem dX2_holds_29 : decode cX2_holds 29 = .ok (.aload_n 0, 1) := by decide +kernel
theorem dX2_holds_30 : decode cX2_holds 30 = .ok (.getfield 44, 3) := by decide +kernel
theorem dX2_holds_33 : decode cX2_holds 33 = .ok (.aload_n 0, 1) := by decide +kernel
theorem dX2_holds_34 : decode cX2_holds 34 = .ok (.getfield 47, 3) := by decide +kernel
theorem dX2_holds_37 : decode cX2_holds 37 = .ok (.aload_n 0, 1) := by decide +kernel
theorem dX2_holds_38 : decode cX2_holds 38 = .ok (.getfield 44, 3) := by decide +kernel
theorem dX2_holds_41 : decode cX2_holds 41 = .ok (.invokevirtual 110, 3) := by decide +kernel
theorem dX2_holds_44 : decode cX2_holds 44 = .ok (.aload_n 0, 1) := by decide +kernel
theorem dX2_holds_45 : decode cX2_holds 45 = .ok (.getfield 44, 3) := by decide +kernel
theorem dX2_holds_48 : decode cX2_holds 48 = .ok (.aload_n 2, 1) := by decide +kernel
theorem dX2_holds_49 : decode cX2_holds 49 = .ok (.invokevirtual 118, 3) := by decide +kernel
theorem dX2_holds_52 : decode cX2_holds 52 = .ok (.ireturn, 1) := by decide +kernel
theorem dX2_restOfPowerOfTwo_0 : decode cX2_restOfPowerOfTwo 0 = .ok (.iconst 1, 1) := by decide +kernel
theorem dX2_restOfPowerOfTwo_1 : decode cX2_restOfPowerOfTwo 1 = .ok (.istore_n 3, 1) := by decide +kernel
theorem dX2_restOfPowerOfTwo_2 : decode cX2_restOfPowerOfTwo 2 = .ok (.iconst 0, 1) := by decide +kernel
theorem dX2_restOfPowerOfTwo_3 : decode cX2_restOfPowerOfTwo 3 = .ok (.istore 4, 2) := by decide +kernel
theorem dX2_restOfPowerOfTwo_5 : decode cX2_restOfPowerOfTwo 5 = .ok (.iload 4, 2) := by decide +kernel
theorem dX2_restOfPowerOfTwo_7 : decode cX2_restOfPowerOfTwo 7 = .ok (.iload_n 1, 1) := by decide +kernel
theorem dX2_restOfPowerOfTwo_8 : decode cX2_restOfPowerOfTwo 8 = .ok (.if_icmp .ge 22, 3) := by decide +kernel
theorem dX2_restOfPowerOfTwo_11 : decode cX2_restOfPowerOfTwo 11 = .ok (.iconst 2, 1) := by decide +kernel
theorem dX2_restOfPowerOfTwo_12 : decode cX2_restOfPowerOfTwo 12 = .ok (.iload_n 3, 1) := by decide +kernel
theorem dX2_restOfPowerOfTwo_13 : decode cX2_restOfPowerOfTwo 13 = .ok (.imul, 1) := by decide +kernel
theorem dX2_restOfPowerOfTwo_14 : decode cX2_restOfPowerOfTwo 14 = .ok (.istore_n 3, 1) := by decide +kernel
theorem dX2_restOfPowerOfTwo_15 : decode cX2_restOfPowerOfTwo 15 = .ok (.iload_n 3, 1) := by decide +kernel
theorem dX2_restOfPowerOfTwo_16 : decode cX2_restOfPowerOfTwo 16 = .ok (.iload_n 2, 1) := by decide +kernel
theorem dX2_restOfPowerOfTwo_17 : decode cX2_restOfPowerOfTwo 17 = .ok (.if_icmp .lt 7, 3) := by decide +kernel
theorem dX2_restOfPowerOfTwo_20 : decode cX2_restOfPowerOfTwo 20 = .ok (.iload_n 3, 1) := by decide +kernel
theorem dX2_restOfPowerOfTwo_21 : decode cX2_restOfPowerOfTwo 21 = .ok (.iload_n 2, 1) := by decide +kernel
theorem dX2_restOfPowerOfTwo_22 : decode cX2_restOfPowerOfTwo 22 = .ok (.isub, 1) := by decide +kernel
theorem dX2_restOfPowerOfTwo_23 : decode cX2_restOfPowerOfTwo 23 = .ok (.istore_n 3, 1) := by decide +kernel
theorem dX2_restOfPowerOfTwo_24 : decode cX2_restOfPowerOfTwo 24 = .ok (.iinc 4 1, 3) := by decide +kernel
theorem dX2_restOfPowerOfTwo_27 : decode cX2_restOfPowerOfTwo 27 = .ok (.goto (-22), 3) := by decide +kernel
theorem dX2_restOfPowerOfTwo_30 : decode cX2_restOfPowerOfTwo 30 = .ok (.iload_n 3, 1) := by decide +kernel
theorem dX2_restOfPowerOfTwo_31 : decode cX2_restOfPowerOfTwo 31 = .ok (.ireturn, 1) := by decide +kernel
theorem dX2_generatorsOrder_0 : decode cX2_generatorsOrder 0 = .ok (.aload_n 0, 1) := by decide +kernel
theorem dX2_generatorsOrder_1 : decode cX2_generatorsOrder 1 = .ok (.getfield 44, 3) := by decide +kernel
theorem dX2_generatorsOrder_4 : decode cX2_generatorsOrder 4 = .ok (.aload_n 0, 1) := by decide +kernel
theorem dX2_generatorsOrder_5 : decode cX2_generatorsOrder 5 = .ok (.getfield 22, 3) := by decide +kernel
theorem dX2_generatorsOrder_8 : decode cX2_generatorsOrder 8 = .ok (.invokevirtual 101, 3) := by decide +kernel
theorem dX2_generatorsOrder_11 : decode cX2_generatorsOrder 11 = .ok (.iconst 1, 1) := by decide +kernel
theorem dX2_generatorsOrder_12 : decode cX2_generatorsOrder 12 = .ok (.istore_n 2, 1) := by decide +kernel
theorem dX2_generatorsOrder_13 : decode cX2_generatorsOrder 13 = .ok (.iload_n 2, 1) := by decide +kernel
theorem dX2_generatorsOrder_14 : decode cX2_generatorsOrder 14 = .ok (.iload_n 1, 1) := by decide +kernel
theorem dX2_generatorsOrder_15 : decode cX2_generatorsOrder 15 = .ok (.if_icmp .gt 41, 3) := by decide +kernel
theorem dX2_generatorsOrder_18 : decode cX2_generatorsOrder 18 = .ok (.aload_n 0, 1) := by decide +kernel
theorem dX2_generatorsOrder_19 : decode cX2_generatorsOrder 19 = .ok (.getfield 44, 3) := by decide +kernel
theorem dX2_generatorsOrder_22 : decode cX2_generatorsOrder 22 = .ok (.aload_n 0, 1) := by decide +kernel
theorem dX2_generatorsOrder_23 : decode cX2_generatorsOrder 23 = .ok (.getfield 18, 3) := by decide +kernel
theorem dX2_generatorsOrder_26 : decode cX2_generatorsOrder 26 = .ok (.invokevirtual 118, 3) := by decide +kernel
theorem dX2_generatorsOrder_29 : decode cX2_generatorsOrder 29 = .ok (.ifCond .eq 5, 3) := by decide +kernel
theorem dX2_generatorsOrder_32 : decode cX2_generatorsOrder 32 = .ok (.iload_n 2, 1) := by decide +kernel
theorem dX2_generatorsOrder_33 : decode cX2_generatorsOrder 33 = .ok (.ireturn, 1) := by decide +kernel
theorem dX2_generatorsOrder_34 : decode cX2_generatorsOrder 34 = .ok (.aload_n 0, 1) := by decide +kernel
theorem dX2_generatorsOrder_35 : decode cX2_generatorsOrder 35 = .ok (.aload_n 0, 1) := by decide +kernel
theorem dX2_generatorsOrder_36 : decode cX2_generatorsOrder 36 = .ok (.getfield 44, 3) := by decide +kernel
theorem dX2_generatorsOrder_39 : decode cX2_generatorsOrder 39 = .ok (.aload_n 0, 1) := by decide +kernel
theorem dX2_generatorsOrder_40 : decode cX2_generatorsOrder 40 = .ok (.getfield 22, 3) := by decide +kernel
theorem dX2_generatorsOrder_43 : decode cX2_generatorsOrder 43 = .ok (.aload_n 0, 1) := by decide +kernel
theorem dX2_generatorsOrder_44 : decode cX2_generatorsOrder 44 = .ok (.getfield 44, 3) := by decide +kernel
theorem dX2_generatorsOrder_47 : decode cX2_generatorsOrder 47 = .ok (.invokevirtual 110, 3) := by decide +kernel
theorem dX2_generatorsOrder_50 : decode cX2_generatorsOrder 50 = .ok (.iinc 2 1, 3) := by decide +kernel
theorem dX2_generatorsOrder_53 : decode cX2_generatorsOrder 53 = .ok (.goto (-40), 3) := by decide +kernel
theorem dX2_generatorsOrder_56 : decode cX2_generatorsOrder 56 = .ok (.iconst 0, 1) := by decide +kernel
theorem dX2_generatorsOrder_57 : decode cX2_generatorsOrder 57 = .ok (.ireturn, 1) := by decide +kernel
theorem dX2_countReduced_0 : decode cX2_countReduced 0 = .ok (.iconst 0, 1) := by decide +kernel
theorem dX2_countReduced_1 : decode cX2_countReduced 1 = .ok (.istore_n 1, 1) := by decide +kernel
theorem dX2_countReduced_2 : decode cX2_countReduced 2 = .ok (.lconst 1, 1) := by decide +kernel
theorem dX2_countReduced_3 : decode cX2_countReduced 3 = .ok (.lstore_n 2, 1) := by decide +kernel
theorem dX2_countReduced_4 : decode cX2_countReduced 4 = .ok (.ldc2_w 126, 3) := by decide +kernel
theorem dX2_countReduced_7 : decode cX2_countReduced 7 = .ok (.lload_n 2, 1) := by decide +kernel
theorem dX2_countReduced_8 : decode cX2_countReduced 8 = .ok (.lmul, 1) := by decide +kernel
theorem dX2_countReduced_9 : decode cX2_countReduced 9 = .ok (.lload_n 2, 1) := by decide +kernel
theorem dX2_countReduced_10 : decode cX2_countReduced 10 = .ok (.lmul, 1) := by decide +kernel
theorem dX2_countReduced_11 : decode cX2_countReduced 11 = .ok (.aload_n 0, 1) := by decide +kernel
theorem dX2_countReduced_12 : decode cX2_countReduced 12 = .ok (.getfield 9, 3) := by decide +kernel
theorem dX2_countReduced_15 : decode cX2_countReduced 15 = .ok (.i2l, 1) := by decide +kernel
theorem dX2_countReduced_16 : decode cX2_countReduced 16 = .ok (.lcmp, 1) := by decide +kernel
theorem dX2_countReduced_17 : decode cX2_countReduced 17 = .ok (.ifCond .gt 105, 3) := by decide +kernel
theorem dX2_countReduced_20 : decode cX2_countReduced 20 = .ok (.lload_n 2, 1) := by decide +kernel
theorem dX2_countReduced_21 : decode cX2_countReduced 21 = .ok (.lload_n 2, 1) := by decide +kernel
theorem dX2_countReduced_22 : decode cX2_countReduced 22 = .ok (.lmul, 1) := by decide +kernel
theorem dX2_countReduced_23 : decode cX2_countReduced 23 = .ok (.aload_n 0, 1) := by decide +kernel
theorem dX2_countReduced_24 : decode cX2_countReduced 24 = .ok (.getfield 9, 3) := by decide +kernel
theorem dX2_countReduced_27 : decode cX2_countReduced 27 = .ok (.i2l, 1) := by decide +kernel
theorem dX2_countReduced_28 : decode cX2_countReduced 28 = .ok (.ladd, 1) := by decide +kernel
theorem dX2_countReduced_29 : decode cX2_countReduced 29 = .ok (.ldc2_w 67, 3) := by decide +kernel
theorem dX2_countReduced_32 : decode cX2_countReduced 32 = .ok (.ldiv, 1) := by decide +kernel
theorem dX2_countReduced_33 : decode cX2_countReduced 33 = .ok (.lstore 4, 2) := by decide +kernel
theorem dX2_countReduced_35 : decode cX2_countReduced 35 = .ok (.lload_n 2, 1) := by decide +kernel
theorem dX2_countReduced_36 : decode cX2_countReduced 36 = .ok (.lstore 6, 2) := by decide +kernel
theorem dX2_countReduced_38 : decode cX2_countReduced 38 = .ok (.lload 6, 2) := by decide +kernel
theorem dX2_countReduced_40 : decode cX2_countReduced 40 = .ok (.lload 6, 2) := by decide +kernel
theorem dX2_countReduced_42 : decode cX2_countReduced 42 = .ok (.lmul, 1) := by decide +kernel
theorem dX2_countReduced_43 : decode cX2_countReduced 43 = .ok (.lload 4, 2) := by decide +kernel
theorem dX2_countReduced_45 : decode cX2_countReduced 45 = .ok (.lcmp, 1) := by decide +kernel
theorem dX2_countReduced_46 : decode cX2_countReduced 46 = .ok (.ifCond .gt 67, 3) := by decide +kernel
theorem dX2_countReduced_49 : decode cX2_countReduced 49 = .ok (.lload 4, 2) := by decide +kernel
theorem dX2_countReduced_51 : decode cX2_countReduced 51 = .ok (.lload 6, 2) := by decide +kernel
theorem dX2_countReduced_53 : decode cX2_countReduced 53 = .ok (.invokestatic 76, 3) := by decide +kernel
theorem dX2_countReduced_56 : decode cX2_countReduced 56 = .ok (.lconst 0, 1) := by decide +kernel
theorem dX2_countReduced_57 : decode cX2_countReduced 57 = .ok (.lcmp, 1) := by decide +kernel
theorem dX2_countReduced_58 : decode cX2_countReduced 58 = .ok (.ifCond .ne 46, 3) := by decide +kernel
theorem dX2_countReduced_61 : decode cX2_countReduced 61 = .ok (.aload_n 0, 1) := by decide +kernel
theorem dX2_countReduced_62 : decode cX2_countReduced 62 = .ok (.lload 6, 2) := by decide +kernel
theorem dX2_countReduced_64 : decode cX2_countReduced 64 = .ok (.lload_n 2, 1) := by decide +kernel
theorem dX2_countReduced_65 : decode cX2_countReduced 65 = .ok (.lload 4, 2) := by decide +kernel
theorem dX2_countReduced_67 : decode cX2_countReduced 67 = .ok (.lload 6, 2) := by decide +kernel
theorem dX2_countReduced_69 : decode cX2_countReduced 69 = .ok (.invokestatic 69, 3) := by decide +kernel
theorem dX2_countReduced_72 : decode cX2_countReduced 72 = .ok (.invokevirtual 79, 3) := by decide +kernel
theorem dX2_countReduced_75 : decode cX2_countReduced 75 = .ok (.ifCond .eq 29, 3) := by decide +kernel
theorem dX2_countReduced_78 : decode cX2_countReduced 78 = .ok (.iload_n 1, 1) := by decide +kernel
theorem dX2_countReduced_79 : decode cX2_countReduced 79 = .ok (.lload 6, 2) := by decide +kernel
theorem dX2_countReduced_81 : decode cX2_countReduced 81 = .ok (.lload_n 2, 1) := by decide +kernel
theorem dX2_countReduced_82 : decode cX2_countReduced 82 = .ok (.lcmp, 1) := by decide +kernel
theorem dX2_countReduced_83 : decode cX2_countReduced 83 = .ok (.ifCond .eq 14, 3) := by decide +kernel
theorem dX2_countReduced_86 : decode cX2_countReduced 86 = .ok (.lload 6, 2) := by decide +kernel
theorem dX2_countReduced_88 : decode cX2_countReduced 88 = .ok (.lload 6, 2) := by decide +kernel
theorem dX2_countReduced_90 : decode cX2_countReduced 90 = .ok (.lmul, 1) := by decide +kernel
theorem dX2_countReduced_91 : decode cX2_countReduced 91 = .ok (.lload 4, 2) := by decide +kernel
theorem dX2_countReduced_93 : decode cX2_countReduced 93 = .ok (.lcmp, 1) := by decide +kernel
theorem dX2_countReduced_94 : decode cX2_countReduced 94 = .ok (.ifCond .ne 7, 3) := by decide +kernel
theorem dX2_countReduced_97 : decode cX2_countReduced 97 = .ok (.iconst 1, 1) := by decide +kernel
theorem dX2_countReduced_98 : decode cX2_countReduced 98 = .ok (.goto 4, 3) := by decide +kernel
theorem dX2_countReduced_101 : decode cX2_countReduced 101 = .ok (.iconst 2, 1) := by decide +kernel
theorem dX2_countReduced_102 : decode cX2_countReduced 102 = .ok (.iadd, 1) := by decide +kernel
theorem dX2_countReduced_103 : decode cX2_countReduced 103 = .ok (.istore_n 1, 1) := by decide +kernel
theorem dX2_countReduced_104 : decode cX2_countReduced 104 = .ok (.lload 6, 2) := by decide +kernel
theorem dX2_countReduced_106 : decode cX2_countReduced 106 = .ok (.lconst 1, 1) := by decide +kernel
theorem dX2_countReduced_107 : decode cX2_countReduced 107 = .ok (.ladd, 1) := by decide +kernel
theorem dX2_countReduced_108 : decode cX2_countReduced 108 = .ok (.lstore 6, 2) := by decide +kernel
theorem dX2_countReduced_110 : decode cX2_countReduced 110 = .ok (.goto (-72), 3) := by decide +kernel
theorem dX2_countReduced_113 : decode cX2_countReduced 113 = .ok (.lload_n 2, 1) := by decide +kernel
theorem dX2_countReduced_114 : decode cX2_countReduced 114 = .ok (.ldc2_w 54, 3) := by decide +kernel
theorem dX2_countReduced_117 : decode cX2_countReduced 117 = .ok (.ladd, 1) := by decide +kernel
theorem dX2_countReduced_118 : decode cX2_countReduced 118 = .ok (.lstore_n 2, 1) := by decide +kernel
theorem dX2_countReduced_119 : decode cX2_countReduced 119 = .ok (.goto (-115), 3) := by decide +kernel
theorem dX2_countReduced_122 : decode cX2_countReduced 122 = .ok (.iload_n 1, 1) := by decide +kernel
theorem dX2_countReduced_123 : decode cX2_countReduced 123 = .ok (.ireturn, 1) := by decide +kernel
theorem dX3_init_0 : decode cX3_init 0 = .ok (.aload_n 0, 1) := by decide +kernel
theorem dX3_init_1 : decode cX3_init 1 = .ok (.invokespecial 1, 3) := by decide +kernel
theorem dX3_init_4 : decode cX3_init 4 = .ok (.aload_n 0, 1) := by decide +kernel
theorem dX3_init_5 : decode cX3_init 5 = .ok (.new 7, 3) := by decide +kernel
theorem dX3_init_8 : decode cX3_init 8 = .ok (.dup, 1) := by decide +kernel
theorem dX3_init_9 : decode cX3_init 9 = .ok (.invokespecial 9, 3) := by decide +kernel
theorem dX3_init_12 : decode cX3_init 12 = .ok (.putfield 10, 3) := by decide +kernel
theorem dX3_init_15 : decode cX3_init 15 = .ok (.aload_n 0, 1) := by decide +kernel
theorem dX3_init_16 : decode cX3_init 16 = .ok (.new 7, 3) := by decide +kernel
theorem dX3_init_19 : decode cX3_init 19 = .ok (.dup, 1) := by decide +kernel
theorem dX3_init_20 : decode cX3_init 20 = .ok (.invokespecial 9, 3) := by decide +kernel
theorem dX3_init_23 : decode cX3_init 23 = .ok (.putfield 16, 3) := by decide +kernel
theorem dX3_init_26 : decode cX3_init 26 = .ok (.aload_n 0, 1) := by decide +kernel
theorem dX3_init_27 : decode cX3_init 27 = .ok (.new 7, 3) := by decide +kernel
theorem dX3_init_30 : decode cX3_init 30 = .ok (.dup, 1) := by decide +kernel
theorem dX3_init_31 : decode cX3_init 31 = .ok (.invokespecial 9, 3) := by decide +kernel
theorem dX3_init_34 : decode cX3_init 34 = .ok (.putfield 19, 3) := by decide +kernel
theorem dX3_init_37 : decode cX3_init 37 = .ok (.return_, 1) := by decide +kernel
theorem dX4_init_0 : decode cX4_init 0 = .ok (.aload_n 0, 1) := by decide +kernel
theorem dX4_init_1 : decode cX4_init 1 = .ok (.invokespecial 1, 3) := by decide +kernel
theorem dX4_init_4 : decode cX4_init 4 = .ok (.aload_n 0, 1) := by decide +kernel
theorem dX4_init_5 : decode cX4_init 5 = .ok (.new 7, 3) := by decide +kernel
theorem dX4_init_8 : decode cX4_init 8 = .ok (.dup, 1) := by decide +kernel
theorem dX4_init_9 : decode cX4_init 9 = .ok (.invokespecial 9, 3) := by decide +kernel
theorem dX4_init_12 : decode cX4_init 12 = .ok (.putfield 10, 3) := by decide +kernel
theorem dX4_init_15 : decode cX4_init 15 = .ok (.aload_n 0, 1) := by decide +kernel
theorem dX4_init_16 : decode cX4_init 16 = .ok (.bipush 16, 2) := by decide +kernel
theorem dX4_init_18 : decode cX4_init 18 = .ok (.anewarray 16, 3) := by decide +kernel
theorem dX4_init_21 : decode cX4_init 21 = .ok (.putfield 18, 3) := by decide +kernel
theorem dX4_init_24 : decode cX4_init 24 = .ok (.iconst 0, 1) := by decide +kernel
theorem dX4_init_25 : decode cX4_init 25 = .ok (.istore_n 1, 1) := by decide +kernel
theorem dX4_init_26 : decode cX4_init 26 = .ok (.iload_n 1, 1) := by decide +kernel
theorem dX4_init_27 : decode cX4_init 27 = .ok (.bipush 16, 2) := by decide +kernel
theorem dX4_init_29 : decode cX4_init 29 = .ok (.if_icmp .ge 22, 3) := by decide +kernel
theorem dX4_init_32 : decode cX4_init 32 = .ok (.aload_n 0, 1) := by decide +kernel
theorem dX4_init_33 : decode cX4_init 33 = .ok (.getfield 18, 3) := by decide +kernel
theorem dX4_init_36 : decode cX4_init 36 = .ok (.iload_n 1, 1) := by decide +kernel
theorem dX4_init_37 : decode cX4_init 37 = .ok (.new 16, 3) := by decide +kernel
theorem dX4_init_40 : decode cX4_init 40 = .ok (.dup, 1) := by decide +kernel
theorem dX4_init_41 : decode cX4_init 41 = .ok (.invokespecial 22, 3) := by decide +kernel
theorem dX4_init_44 : decode cX4_init 44 = .ok (.aastore, 1) := by decide +kernel
theorem dX4_init_45 : decode cX4_init 45 = .ok (.iinc 1 1, 3) := by decide +kernel
theorem dX4_init_48 : decode cX4_init 48 = .ok (.goto (-22), 3) := by decide +kernel
theorem dX4_init_51 : decode cX4_init 51 = .ok (.aload_n 0, 1) := by decide +kernel
theorem dX4_init_52 : decode cX4_init 52 = .ok (.iconst 3, 1) := by decide +kernel
theorem dX4_init_53 : decode cX4_init 53 = .ok (.anewarray 23, 3) := by decide +kernel
theorem dX4_init_56 : decode cX4_init 56 = .ok (.putfield 25, 3) := by decide +kernel
theorem dX4_init_59 : decode cX4_init 59 = .ok (.iconst 0, 1) := by decide +kernel
theorem dX4_init_60 : decode cX4_init 60 = .ok (.istore_n 1, 1) := by decide +kernel
theorem dX4_init_61 : decode cX4_init 61 = .ok (.iload_n 1, 1) := by decide +kernel
theorem dX4_init_62 : decode cX4_init 62 = .ok (.iconst 3, 1) := by decide +kernel
theorem dX4_init_63 : decode cX4_init 63 = .ok (.if_icmp .ge 22, 3) := by decide +kernel
theorem dX4_init_66 : decode cX4_init 66 = .ok (.aload_n 0, 1) := by decide +kernel
theorem dX4_init_67 : decode cX4_init 67 = .ok (.getfield 25, 3) := by decide +kernel
theorem dX4_init_70 : decode cX4_init 70 = .ok (.iload_n 1, 1) := by decide +kernel
theorem dX4_init_71 : decode cX4_init 71 = .ok (.new 23, 3) := by decide +kernel
theorem dX4_init_74 : decode cX4_init 74 = .ok (.dup, 1) := by decide +kernel
theorem dX4_init_75 : decode cX4_init 75 = .ok (.invokespecial 29, 3) := by decide +kernel
theorem dX4_init_78 : decode cX4_init 78 = .ok (.aastore, 1) := by decide +kernel
theorem dX4_init_79 : decode cX4_init 79 = .ok (.iinc 1 1, 3) := by decide +kernel
theorem dX4_init_82 : decode cX4_init 82 = .ok (.goto (-21), 3) := by decide +kernel
theorem dX4_init_85 : decode cX4_init 85 = .ok (.aload_n 0, 1) := by decide +kernel
theorem dX4_init_86 : decode cX4_init 86 = .ok (.iconst 3, 1) := by decide +kernel
theorem dX4_init_87 : decode cX4_init 87 = .ok (.newarray .boolean, 2) := by decide +kernel
theorem dX4_init_89 : decode cX4_init 89 = .ok (.putfield 30, 3) := by decide +kernel
theorem dX4_init_92 : decode cX4_init 92 = .ok (.aload_n 0, 1) := by decide +kernel
theorem dX4_init_93 : decode cX4_init 93 = .ok (.iconst 0, 1) := by decide +kernel
theorem dX4_init_94 : decode cX4_init 94 = .ok (.putfield 34, 3) := by decide +kernel
theorem dX4_init_97 : decode cX4_init 97 = .ok (.aload_n 0, 1) := by decide +kernel
theorem dX4_init_98 : decode cX4_init 98 = .ok (.iconst 0, 1) := by decide +kernel
theorem dX4_init_99 : decode cX4_init 99 = .ok (.putfield 38, 3) := by decide +kernel
theorem dX4_init_102 : decode cX4_init 102 = .ok (.aload_n 0, 1) := by decide +kernel
theorem dX4_init_103 : decode cX4_init 103 = .ok (.aconst_null, 1) := by decide +kernel
theorem dX4_init_104 : decode cX4_init 104 = .ok (.putfield 42, 3) := by decide +kernel
theorem dX4_init_107 : decode cX4_init 107 = .ok (.return_, 1) := by decide +kernel
theorem dX4_discriminant_0 : decode cX4_discriminant 0 = .ok (.iload_n 1, 1) := by decide +kernel
theorem dX4_discriminant_1 : decode cX4_discriminant 1 = .ok (.bipush 7, 2) := by decide +kernel
theorem dX4_discriminant_3 : decode cX4_discriminant 3 = .ok (.if_icmp .lt 18, 3) := by decide +kernel
theorem dX4_discriminant_6 : decode cX4_discriminant 6 = .ok (.iload_n 1, 1) := by decide +kernel
theorem dX4_discriminant_7 : decode cX4_discriminant 7 = .ok (.ldc 46, 2) := by decide +kernel
theorem dX4_discriminant_9 : decode cX4_discriminant 9 = .ok (.if_icmp .gt 12, 3) := by decide +kernel
theorem dX4_discriminant_12 : decode cX4_discriminant 12 = .ok (.iload_n 1, 1) := by decide +kernel
theorem dX4_discriminant_13 : decode cX4_discriminant 13 = .ok (.bipush 8, 2) := by decide +kernel
theorem dX4_discriminant_15 : decode cX4_discriminant 15 = .ok (.irem, 1) := by decide +kernel
theorem dX4_discriminant_16 : decode cX4_discriminant 16 = .ok (.bipush 7, 2) := by decide +kernel
theorem dX4_discriminant_18 : decode cX4_discriminant 18 = .ok (.if_icmp .eq 13, 3) := by decide +kernel
theorem dX4_discriminant_21 : decode cX4_discriminant 21 = .ok (.new 47, 3) := by decide +kernel
theorem dX4_discriminant_24 : decode cX4_discriminant 24 = .ok (.dup, 1) := by decide +kernel
theorem dX4_discriminant_25 : decode cX4_discriminant 25 = .ok (.ldc 49, 2) := by decide +kernel
theorem dX4_discriminant_27 : decode cX4_discriminant 27 = .ok (.invokespecial 51, 3) := by decide +kernel
theorem dX4_discriminant_30 : decode cX4_discriminant 30 = .ok (.athrow, 1) := by decide +kernel
theorem dX4_discriminant_31 : decode cX4_discriminant 31 = .ok (.aload_n 0, 1) := by decide +kernel
theorem dX4_discriminant_32 : decode cX4_discriminant 32 = .ok (.getfield 42, 3) := by decide +kernel
theorem dX4_discriminant_35 : decode cX4_discriminant 35 = .ok (.ifnull 13, 3) := by decide +kernel
theorem dX4_discriminant_38 : decode cX4_discriminant 38 = .ok (.new 54, 3) := by decide +kernel
theorem dX4_discriminant_41 : decode cX4_discriminant 41 = .ok (.dup, 1) := by decide +kernel
theorem dX4_discriminant_42 : decode cX4_discriminant 42 = .ok (.ldc 56, 2) := by decide +kernel
theorem dX4_discriminant_44 : decode cX4_discriminant 44 = .ok (.invokespecial 58, 3) := by decide +kernel
theorem dX4_discriminant_47 : decode cX4_discriminant 47 = .ok (.athrow, 1) := by decide +kernel
theorem dX4_discriminant_48 : decode cX4_discriminant 48 = .ok (.aload_n 0, 1) := by decide +kernel
theorem dX4_discriminant_49 : decode cX4_discriminant 49 = .ok (.getfield 10, 3) := by decide +kernel
theorem dX4_discriminant_52 : decode cX4_discriminant 52 = .ok (.iload_n 1, 1) := by decide +kernel
theorem dX4_discriminant_53 : decode cX4_discriminant 53 = .ok (.invokevirtual 59, 3) := by decide +kernel
theorem dX4_discriminant_56 : decode cX4_discriminant 56 = .ok (.aload_n 0, 1) := by decide +kernel
theorem dX4_discriminant_57 : decode cX4_discriminant 57 = .ok (.iconst 1, 1) := by decide +kernel
theorem dX4_discriminant_58 : decode cX4_discriminant 58 = .ok (.putfield 34, 3) := by decide +kernel
theorem dX4_discriminant_61 : decode cX4_discriminant 61 = .ok (.aload_n 0, 1) := by decide +kernel
theorem dX4_discriminant_62 : decode cX4_discriminant 62 = .ok (.iconst 0, 1) := by decide +kernel
theorem dX4_discriminant_63 : decode cX4_discriminant 63 = .ok (.putfield 38, 3) := by decide +kernel
theorem dX4_discriminant_66 : decode cX4_discriminant 66 = .ok (.iconst 0, 1) := by decide +kernel
theorem dX4_discriminant_67 : decode cX4_discriminant 67 = .ok (.istore_n 2, 1) := by decide +kernel
theorem dX4_discriminant_68 : decode cX4_discriminant 68 = .ok (.iload_n 2, 1) := by decide +kernel
theorem dX4_discriminant_69 : decode cX4_discriminant 69 = .ok (.iconst 3, 1) := by decide +kernel
theorem dX4_discriminant_70 : decode cX4_discriminant 70 = .ok (.if_icmp .ge 16, 3) := by decide +kernel
theorem dX4_discriminant_73 : decode cX4_discriminant 73 = .ok (.aload_n 0, 1) := by decide +kernel
theorem dX4_discriminant_74 : decode cX4_discriminant 74 = .ok (.getfield 30, 3) := by decide +kernel
theorem dX4_discriminant_77 : decode cX4_discriminant 77 = .ok (.iload_n 2, 1) := by decide +kernel
theorem dX4_discriminant_78 : decode cX4_discriminant 78 = .ok (.iconst 0, 1) := by decide +kernel
theorem dX4_discriminant_79 : decode cX4_discriminant 79 = .ok (.bastore, 1) := by decide +kernel
theorem dX4_discriminant_80 : decode cX4_discriminant 80 = .ok (.iinc 2 1, 3) := by decide +kernel
theorem dX4_discriminant_83 : decode cX4_discriminant 83 = .ok (.goto (-15), 3) := by decide +kernel
theorem dX4_discriminant_86 : decode cX4_discriminant 86 = .ok (.return_, 1) := by decide +kernel
theorem dX4_begin_0 : decode cX4_begin 0 = .ok (.aload_n 0, 1) := by decide +kernel
theorem dX4_begin_1 : decode cX4_begin 1 = .ok (.invokevirtual 63, 3) := by decide +kernel
theorem dX4_begin_4 : decode cX4_begin 4 = .ok (.iload_n 1, 1) := by decide +kernel
theorem dX4_begin_5 : decode cX4_begin 5 = .ok (.invokestatic 66, 3) := by decide +kernel
theorem dX4_begin_8 : decode cX4_begin 8 = .ok (.aload_n 0, 1) := by decide +kernel
theorem dX4_begin_9 : decode cX4_begin 9 = .ok (.getfield 42, 3) := by decide +kernel
theorem dX4_begin_12 : decode cX4_begin 12 = .ok (.ifnonnull 12, 3) := by decide +kernel
theorem dX4_begin_15 : decode cX4_begin 15 = .ok (.aload_n 0, 1) := by decide +kernel
theorem dX4_begin_16 : decode cX4_begin 16 = .ok (.getfield 38, 3) := by decide +kernel
theorem dX4_begin_19 : decode cX4_begin 19 = .ok (.bipush 16, 2) := by decide +kernel
theorem dX4_begin_21 : decode cX4_begin 21 = .ok (.if_icmp .lt 13, 3) := by decide +kernel
theorem dX4_begin_24 : decode cX4_begin 24 = .ok (.new 54, 3) := by decide +kernel
theorem dX4_begin_27 : decode cX4_begin 27 = .ok (.dup, 1) := by decide +kernel
theorem dX4_begin_28 : decode cX4_begin 28 = .ok (.ldc 69, 2) := by decide +kernel
theorem dX4_begin_30 : decode cX4_begin 30 = .ok (.invokespecial 58, 3) := by decide +kernel
theorem dX4_begin_33 : decode cX4_begin 33 = .ok (.athrow, 1) := by decide +kernel
theorem dX4_begin_34 : decode cX4_begin 34 = .ok (.aload_n 0, 1) := by decide +kernel
theorem dX4_begin_35 : decode cX4_begin 35 = .ok (.getfield 18, 3) := by decide +kernel
theorem dX4_begin_38 : decode cX4_begin 38 = .ok (.aload_n 0, 1) := by decide +kernel
theorem dX4_begin_39 : decode cX4_begin 39 = .ok (.getfield 38, 3) := by decide +kernel
theorem dX4_begin_42 : decode cX4_begin 42 = .ok (.aaload, 1) := by decide +kernel
theorem dX4_begin_43 : decode cX4_begin 43 = .ok (.astore_n 2, 1) := by decide +kernel
theorem dX4_begin_44 : decode cX4_begin 44 = .ok (.aload_n 2, 1) := by decide +kernel
theorem dX4_begin_45 : decode cX4_begin 45 = .ok (.iload_n 1, 1) := by decide +kernel
theorem dX4_begin_46 : decode cX4_begin 46 = .ok (.putfield 71, 3) := by decide +kernel
theorem dX4_begin_49 : decode cX4_begin 49 = .ok (.aload_n 2, 1) := by decide +kernel
theorem dX4_begin_50 : decode cX4_begin 50 = .ok (.iload_n 1, 1) := by decide +kernel
theorem dX4_begin_51 : decode cX4_begin 51 = .ok (.putfield 74, 3) := by decide +kernel
theorem dX4_begin_54 : decode cX4_begin 54 = .ok (.aload_n 2, 1) := by decide +kernel
theorem dX4_begin_55 : decode cX4_begin 55 = .ok (.iload_n 1, 1) := by decide +kernel
theorem dX4_begin_56 : decode cX4_begin 56 = .ok (.putfield 77, 3) := by decide +kernel
theorem dX4_begin_59 : decode cX4_begin 59 = .ok (.aload_n 2, 1) := by decide +kernel
theorem dX4_begin_60 : decode cX4_begin 60 = .ok (.iconst 0, 1) := by decide +kernel
theorem dX4_begin_61 : decode cX4_begin 61 = .ok (.putfield 80, 3) := by decide +kernel
theorem dX4_begin_64 : decode cX4_begin 64 = .ok (.aload_n 2, 1) := by decide +kernel
theorem dX4_begin_65 : decode cX4_begin 65 = .ok (.iconst 1, 1) := by decide +kernel
theorem dX4_begin_66 : decode cX4_begin 66 = .ok (.putfield 83, 3) := by decide +kernel
theorem dX4_begin_69 : decode cX4_begin 69 = .ok (.aload_n 2, 1) := by decide +kernel
theorem dX4_begin_70 : decode cX4_begin 70 = .ok (.aload_n 0, 1) := by decide +kernel
theorem dX4_begin_71 : decode cX4_begin 71 = .ok (.invokevirtual 86, 3) := by decide +kernel
theorem dX4_begin_74 : decode cX4_begin 74 = .ok (.putfield 90, 3) := by decide +kernel
theorem dX4_begin_77 : decode cX4_begin 77 = .ok (.aload_n 0, 1) := by decide +kernel
theorem dX4_begin_78 : decode cX4_begin 78 = .ok (.getfield 10, 3) := by decide +kernel
theorem dX4_begin_81 : decode cX4_begin 81 = .ok (.aload_n 0, 1) := by decide +kernel
theorem dX4_begin_82 : decode cX4_begin 82 = .ok (.getfield 10, 3) := by decide +kernel
theorem dX4_begin_85 : decode cX4_begin 85 = .ok (.getfield 93, 3) := by decide +kernel
theorem dX4_begin_88 : decode cX4_begin 88 = .ok (.aload_n 2, 1) := by decide +kernel
theorem dX4_begin_89 : decode cX4_begin 89 = .ok (.getfield 90, 3) := by decide +kernel
theorem dX4_begin_92 : decode cX4_begin 92 = .ok (.aload_n 2, 1) := by decide +kernel
theorem dX4_begin_93 : decode cX4_begin 93 = .ok (.getfield 97, 3) := by decide +kernel
theorem dX4_begin_96 : decode cX4_begin 96 = .ok (.invokevirtual 100, 3) := by decide +kernel
theorem dX4_begin_99 : decode cX4_begin 99 = .ok (.aload_n 2, 1) := by decide +kernel
theorem dX4_begin_100 : decode cX4_begin 100 = .ok (.getfield 104, 3) := by decide +kernel
theorem dX4_begin_103 : decode cX4_begin 103 = .ok (.aload_n 2, 1) := by decide +kernel
theorem dX4_begin_104 : decode cX4_begin 104 = .ok (.getfield 97, 3) := by decide +kernel
theorem dX4_begin_107 : decode cX4_begin 107 = .ok (.invokevirtual 107, 3) := by decide +kernel
theorem dX4_begin_110 : decode cX4_begin 110 = .ok (.aload_n 2, 1) := by decide +kernel
theorem dX4_begin_111 : decode cX4_begin 111 = .ok (.getfield 111, 3) := by decide +kernel
theorem dX4_begin_114 : decode cX4_begin 114 = .ok (.aload_n 0, 1) := by decide +kernel
theorem dX4_begin_115 : decode cX4_begin 115 = .ok (.getfield 10, 3) := by decide +kernel
theorem dX4_begin_118 : decode cX4_begin 118 = .ok (.getfield 114, 3) := by decide +kernel
theorem dX4_begin_121 : decode cX4_begin 121 = .ok (.invokevirtual 107, 3) := by decide +kernel
theorem dX4_begin_124 : decode cX4_begin 124 = .ok (.aload_n 0, 1) := by decide +kernel
theorem dX4_begin_125 : decode cX4_begin 125 = .ok (.aload_n 2, 1) := by decide +kernel
theorem dX4_begin_126 : decode cX4_begin 126 = .ok (.putfield 42, 3) := by decide +kernel
end
section
theorem dX4_begin_129 : decode cX4_begin 129 = .ok (.aload_n 2, 1) := by decide +kernel
theorem dX4_begin_130 : decode cX4_begin 130 = .ok (.getfield 90, 3) := by decide +kernel
theorem dX4_begin_133 : decode cX4_begin 133 = .ok (.ireturn, 1) := by decide +kernel
theorem dX4_work_0 : decode cX4_work 0 = .ok (.aload_n 0, 1) := by decide +kernel
theorem dX4_work_1 : decode cX4_work 1 = .ok (.invokevirtual 63, 3) := by decide +kernel
theorem dX4_work_4 : decode cX4_work 4 = .ok (.iload_n 1, 1) := by decide +kernel
theorem dX4_work_5 : decode cX4_work 5 = .ok (.invokestatic 66, 3) := by decide +kernel
theorem dX4_work_8 : decode cX4_work 8 = .ok (.aload_n 0, 1) := by decide +kernel
theorem dX4_work_9 : decode cX4_work 9 = .ok (.getfield 42, 3) := by decide +kernel
theorem dX4_work_12 : decode cX4_work 12 = .ok (.ifnull 13, 3) := by decide +kernel
theorem dX4_work_15 : decode cX4_work 15 = .ok (.aload_n 0, 1) := by decide +kernel
theorem dX4_work_16 : decode cX4_work 16 = .ok (.getfield 42, 3) := by decide +kernel
theorem dX4_work_19 : decode cX4_work 19 = .ok (.getfield 74, 3) := by decide +kernel
theorem dX4_work_22 : decode cX4_work 22 = .ok (.ifCond .ne 13, 3) := by decide +kernel
theorem dX4_work_25 : decode cX4_work 25 = .ok (.new 54, 3) := by decide +kernel
theorem dX4_work_28 : decode cX4_work 28 = .ok (.dup, 1) := by decide +kernel
theorem dX4_work_29 : decode cX4_work 29 = .ok (.ldc 117, 2) := by decide +kernel
theorem dX4_work_31 : decode cX4_work 31 = .ok (.invokespecial 58, 3) := by decide +kernel
theorem dX4_work_34 : decode cX4_work 34 = .ok (.athrow, 1) := by decide +kernel
theorem dX4_work_35 : decode cX4_work 35 = .ok (.iload_n 1, 1) := by decide +kernel
theorem dX4_work_36 : decode cX4_work 36 = .ok (.aload_n 0, 1) := by decide +kernel
theorem dX4_work_37 : decode cX4_work 37 = .ok (.getfield 42, 3) := by decide +kernel
theorem dX4_work_40 : decode cX4_work 40 = .ok (.getfield 74, 3) := by decide +kernel
theorem dX4_work_43 : decode cX4_work 43 = .ok (.invokestatic 119, 3) := by decide +kernel
theorem dX4_work_46 : decode cX4_work 46 = .ok (.istore_n 2, 1) := by decide +kernel
theorem dX4_work_47 : decode cX4_work 47 = .ok (.iconst 0, 1) := by decide +kernel
theorem dX4_work_48 : decode cX4_work 48 = .ok (.istore_n 3, 1) := by decide +kernel
theorem dX4_work_49 : decode cX4_work 49 = .ok (.iload_n 3, 1) := by decide +kernel
theorem dX4_work_50 : decode cX4_work 50 = .ok (.iload_n 2, 1) := by decide +kernel
theorem dX4_work_51 : decode cX4_work 51 = .ok (.if_icmp .ge 37, 3) := by decide +kernel
theorem dX4_work_54 : decode cX4_work 54 = .ok (.aload_n 0, 1) := by decide +kernel
theorem dX4_work_55 : decode cX4_work 55 = .ok (.getfield 10, 3) := by decide +kernel
theorem dX4_work_58 : decode cX4_work 58 = .ok (.aload_n 0, 1) := by decide +kernel
theorem dX4_work_59 : decode cX4_work 59 = .ok (.getfield 42, 3) := by decide +kernel
theorem dX4_work_62 : decode cX4_work 62 = .ok (.getfield 104, 3) := by decide +kernel
theorem dX4_work_65 : decode cX4_work 65 = .ok (.aload_n 0, 1) := by decide +kernel
theorem dX4_work_66 : decode cX4_work 66 = .ok (.getfield 42, 3) := by decide +kernel
theorem dX4_work_69 : decode cX4_work 69 = .ok (.getfield 104, 3) := by decide +kernel
theorem dX4_work_72 : decode cX4_work 72 = .ok (.aload_n 0, 1) := by decide +kernel
theorem dX4_work_73 : decode cX4_work 73 = .ok (.getfield 42, 3) := by decide +kernel
theorem dX4_work_76 : decode cX4_work 76 = .ok (.getfield 104, 3) := by decide +kernel
theorem dX4_work_79 : decode cX4_work 79 = .ok (.invokevirtual 125, 3) := by decide +kernel
theorem dX4_work_82 : decode cX4_work 82 = .ok (.iinc 3 1, 3) := by decide +kernel
theorem dX4_work_85 : decode cX4_work 85 = .ok (.goto (-36), 3) := by decide +kernel
theorem dX4_work_88 : decode cX4_work 88 = .ok (.aload_n 0, 1) := by decide +kernel
theorem dX4_work_89 : decode cX4_work 89 = .ok (.getfield 42, 3) := by decide +kernel
theorem dX4_work_92 : decode cX4_work 92 = .ok (.dup, 1) := by decide +kernel
theorem dX4_work_93 : decode cX4_work 93 = .ok (.getfield 74, 3) := by decide +kernel
theorem dX4_work_96 : decode cX4_work 96 = .ok (.iload_n 2, 1) := by decide +kernel
theorem dX4_work_97 : decode cX4_work 97 = .ok (.isub, 1) := by decide +kernel
theorem dX4_work_98 : decode cX4_work 98 = .ok (.putfield 74, 3) := by decide +kernel
theorem dX4_work_101 : decode cX4_work 101 = .ok (.aload_n 0, 1) := by decide +kernel
theorem dX4_work_102 : decode cX4_work 102 = .ok (.getfield 42, 3) := by decide +kernel
theorem dX4_work_105 : decode cX4_work 105 = .ok (.getfield 74, 3) := by decide +kernel
theorem dX4_work_108 : decode cX4_work 108 = .ok (.ifCond .ne 34, 3) := by decide +kernel
theorem dX4_work_111 : decode cX4_work 111 = .ok (.aload_n 0, 1) := by decide +kernel
theorem dX4_work_112 : decode cX4_work 112 = .ok (.getfield 42, 3) := by decide +kernel
theorem dX4_work_115 : decode cX4_work 115 = .ok (.aload_n 0, 1) := by decide +kernel
theorem dX4_work_116 : decode cX4_work 116 = .ok (.getfield 42, 3) := by decide +kernel
theorem dX4_work_119 : decode cX4_work 119 = .ok (.getfield 97, 3) := by decide +kernel
theorem dX4_work_122 : decode cX4_work 122 = .ok (.aload_n 0, 1) := by decide +kernel
theorem dX4_work_123 : decode cX4_work 123 = .ok (.getfield 42, 3) := by decide +kernel
theorem dX4_work_126 : decode cX4_work 126 = .ok (.getfield 104, 3) := by decide +kernel
theorem dX4_work_129 : decode cX4_work 129 = .ok (.aload_n 0, 1) := by decide +kernel
theorem dX4_work_130 : decode cX4_work 130 = .ok (.getfield 42, 3) := by decide +kernel
theorem dX4_work_133 : decode cX4_work 133 = .ok (.getfield 71, 3) := by decide +kernel
theorem dX4_work_136 : decode cX4_work 136 = .ok (.invokestatic 129, 3) := by decide +kernel
theorem dX4_work_139 : decode cX4_work 139 = .ok (.putfield 80, 3) := by decide +kernel
theorem dX4_work_142 : decode cX4_work 142 = .ok (.aload_n 0, 1) := by decide +kernel
theorem dX4_work_143 : decode cX4_work 143 = .ok (.getfield 42, 3) := by decide +kernel
theorem dX4_work_146 : decode cX4_work 146 = .ok (.getfield 74, 3) := by decide +kernel
theorem dX4_work_149 : decode cX4_work 149 = .ok (.ireturn, 1) := by decide +kernel
theorem dX4_prove_0 : decode cX4_prove 0 = .ok (.aload_n 0, 1) := by decide +kernel
theorem dX4_prove_1 : decode cX4_prove 1 = .ok (.invokevirtual 63, 3) := by decide +kernel
theorem dX4_prove_4 : decode cX4_prove 4 = .ok (.iload_n 1, 1) := by decide +kernel
theorem dX4_prove_5 : decode cX4_prove 5 = .ok (.invokestatic 66, 3) := by decide +kernel
theorem dX4_prove_8 : decode cX4_prove 8 = .ok (.aload_n 0, 1) := by decide +kernel
theorem dX4_prove_9 : decode cX4_prove 9 = .ok (.getfield 42, 3) := by decide +kernel
theorem dX4_prove_12 : decode cX4_prove 12 = .ok (.ifnull 23, 3) := by decide +kernel
theorem dX4_prove_15 : decode cX4_prove 15 = .ok (.aload_n 0, 1) := by decide +kernel
theorem dX4_prove_16 : decode cX4_prove 16 = .ok (.getfield 42, 3) := by decide +kernel
theorem dX4_prove_19 : decode cX4_prove 19 = .ok (.getfield 74, 3) := by decide +kernel
theorem dX4_prove_22 : decode cX4_prove 22 = .ok (.ifCond .gt 13, 3) := by decide +kernel
theorem dX4_prove_25 : decode cX4_prove 25 = .ok (.aload_n 0, 1) := by decide +kernel
theorem dX4_prove_26 : decode cX4_prove 26 = .ok (.getfield 42, 3) := by decide +kernel
theorem dX4_prove_29 : decode cX4_prove 29 = .ok (.getfield 77, 3) := by decide +kernel
theorem dX4_prove_32 : decode cX4_prove 32 = .ok (.ifCond .ne 13, 3) := by decide +kernel
theorem dX4_prove_35 : decode cX4_prove 35 = .ok (.new 54, 3) := by decide +kernel
theorem dX4_prove_38 : decode cX4_prove 38 = .ok (.dup, 1) := by decide +kernel
theorem dX4_prove_39 : decode cX4_prove 39 = .ok (.ldc 133, 2) := by decide +kernel
theorem dX4_prove_41 : decode cX4_prove 41 = .ok (.invokespecial 58, 3) := by decide +kernel
theorem dX4_prove_44 : decode cX4_prove 44 = .ok (.athrow, 1) := by decide +kernel
theorem dX4_prove_45 : decode cX4_prove 45 = .ok (.iload_n 1, 1) := by decide +kernel
theorem dX4_prove_46 : decode cX4_prove 46 = .ok (.aload_n 0, 1) := by decide +kernel
theorem dX4_prove_47 : decode cX4_prove 47 = .ok (.getfield 42, 3) := by decide +kernel
theorem dX4_prove_50 : decode cX4_prove 50 = .ok (.getfield 77, 3) := by decide +kernel
theorem dX4_prove_53 : decode cX4_prove 53 = .ok (.invokestatic 119, 3) := by decide +kernel
theorem dX4_prove_56 : decode cX4_prove 56 = .ok (.istore_n 2, 1) := by decide +kernel
theorem dX4_prove_57 : decode cX4_prove 57 = .ok (.iconst 0, 1) := by decide +kernel
theorem dX4_prove_58 : decode cX4_prove 58 = .ok (.istore_n 3, 1) := by decide +kernel
theorem dX4_prove_59 : decode cX4_prove 59 = .ok (.iload_n 3, 1) := by decide +kernel
theorem dX4_prove_60 : decode cX4_prove 60 = .ok (.iload_n 2, 1) := by decide +kernel
theorem dX4_prove_61 : decode cX4_prove 61 = .ok (.if_icmp .ge 17, 3) := by decide +kernel
theorem dX4_prove_64 : decode cX4_prove 64 = .ok (.aload_n 0, 1) := by decide +kernel
theorem dX4_prove_65 : decode cX4_prove 65 = .ok (.aload_n 0, 1) := by decide +kernel
theorem dX4_prove_66 : decode cX4_prove 66 = .ok (.getfield 42, 3) := by decide +kernel
theorem dX4_prove_69 : decode cX4_prove 69 = .ok (.invokevirtual 135, 3) := by decide +kernel
theorem dX4_prove_72 : decode cX4_prove 72 = .ok (.iinc 3 1, 3) := by decide +kernel
theorem dX4_prove_75 : decode cX4_prove 75 = .ok (.goto (-16), 3) := by decide +kernel
theorem dX4_prove_78 : decode cX4_prove 78 = .ok (.aload_n 0, 1) := by decide +kernel
theorem dX4_prove_79 : decode cX4_prove 79 = .ok (.getfield 42, 3) := by decide +kernel
theorem dX4_prove_82 : decode cX4_prove 82 = .ok (.dup, 1) := by decide +kernel
theorem dX4_prove_83 : decode cX4_prove 83 = .ok (.getfield 77, 3) := by decide +kernel
theorem dX4_prove_86 : decode cX4_prove 86 = .ok (.iload_n 2, 1) := by decide +kernel
theorem dX4_prove_87 : decode cX4_prove 87 = .ok (.isub, 1) := by decide +kernel
theorem dX4_prove_88 : decode cX4_prove 88 = .ok (.putfield 77, 3) := by decide +kernel
theorem dX4_prove_91 : decode cX4_prove 91 = .ok (.aload_n 0, 1) := by decide +kernel
theorem dX4_prove_92 : decode cX4_prove 92 = .ok (.getfield 42, 3) := by decide +kernel
theorem dX4_prove_95 : decode cX4_prove 95 = .ok (.getfield 77, 3) := by decide +kernel
theorem dX4_prove_98 : decode cX4_prove 98 = .ok (.ireturn, 1) := by decide +kernel
theorem dX4_publish_0 : decode cX4_publish 0 = .ok (.aload_n 0, 1) := by decide +kernel
theorem dX4_publish_1 : decode cX4_publish 1 = .ok (.invokevirtual 63, 3) := by decide +kernel
theorem dX4_publish_4 : decode cX4_publish 4 = .ok (.aload_n 0, 1) := by decide +kernel
theorem dX4_publish_5 : decode cX4_publish 5 = .ok (.getfield 42, 3) := by decide +kernel
theorem dX4_publish_8 : decode cX4_publish 8 = .ok (.ifnull 23, 3) := by decide +kernel
theorem dX4_publish_11 : decode cX4_publish 11 = .ok (.aload_n 0, 1) := by decide +kernel
theorem dX4_publish_12 : decode cX4_publish 12 = .ok (.getfield 42, 3) := by decide +kernel
theorem dX4_publish_15 : decode cX4_publish 15 = .ok (.getfield 74, 3) := by decide +kernel
theorem dX4_publish_18 : decode cX4_publish 18 = .ok (.ifCond .gt 13, 3) := by decide +kernel
theorem dX4_publish_21 : decode cX4_publish 21 = .ok (.aload_n 0, 1) := by decide +kernel
theorem dX4_publish_22 : decode cX4_publish 22 = .ok (.getfield 42, 3) := by decide +kernel
theorem dX4_publish_25 : decode cX4_publish 25 = .ok (.getfield 77, 3) := by decide +kernel
theorem dX4_publish_28 : decode cX4_publish 28 = .ok (.ifCond .le 13, 3) := by decide +kernel
theorem dX4_publish_31 : decode cX4_publish 31 = .ok (.new 54, 3) := by decide +kernel
theorem dX4_publish_34 : decode cX4_publish 34 = .ok (.dup, 1) := by decide +kernel
theorem dX4_publish_35 : decode cX4_publish 35 = .ok (.ldc 139, 2) := by decide +kernel
theorem dX4_publish_37 : decode cX4_publish 37 = .ok (.invokespecial 58, 3) := by decide +kernel
theorem dX4_publish_40 : decode cX4_publish 40 = .ok (.athrow, 1) := by decide +kernel
theorem dX4_publish_41 : decode cX4_publish 41 = .ok (.aload_n 0, 1) := by decide +kernel
theorem dX4_publish_42 : decode cX4_publish 42 = .ok (.aconst_null, 1) := by decide +kernel
theorem dX4_publish_43 : decode cX4_publish 43 = .ok (.putfield 42, 3) := by decide +kernel
theorem dX4_publish_46 : decode cX4_publish 46 = .ok (.aload_n 0, 1) := by decide +kernel
theorem dX4_publish_47 : decode cX4_publish 47 = .ok (.dup, 1) := by decide +kernel
theorem dX4_publish_48 : decode cX4_publish 48 = .ok (.getfield 38, 3) := by decide +kernel
theorem dX4_publish_51 : decode cX4_publish 51 = .ok (.iconst 1, 1) := by decide +kernel
theorem dX4_publish_52 : decode cX4_publish 52 = .ok (.iadd, 1) := by decide +kernel
theorem dX4_publish_53 : decode cX4_publish 53 = .ok (.putfield 38, 3) := by decide +kernel
theorem dX4_publish_56 : decode cX4_publish 56 = .ok (.aload_n 0, 1) := by decide +kernel
theorem dX4_publish_57 : decode cX4_publish 57 = .ok (.getfield 38, 3) := by decide +kernel
theorem dX4_publish_60 : decode cX4_publish 60 = .ok (.ireturn, 1) := by decide +kernel
theorem dX4_drop_0 : decode cX4_drop 0 = .ok (.aload_n 0, 1) := by decide +kernel
theorem dX4_drop_1 : decode cX4_drop 1 = .ok (.getfield 42, 3) := by decide +kernel
theorem dX4_drop_4 : decode cX4_drop 4 = .ok (.ifnull 7, 3) := by decide +kernel
theorem dX4_drop_7 : decode cX4_drop 7 = .ok (.iconst 1, 1) := by decide +kernel
theorem dX4_drop_8 : decode cX4_drop 8 = .ok (.goto 4, 3) := by decide +kernel
theorem dX4_drop_11 : decode cX4_drop 11 = .ok (.iconst 0, 1) := by decide +kernel
theorem dX4_drop_12 : decode cX4_drop 12 = .ok (.istore_n 1, 1) := by decide +kernel
theorem dX4_drop_13 : decode cX4_drop 13 = .ok (.aload_n 0, 1) := by decide +kernel
theorem dX4_drop_14 : decode cX4_drop 14 = .ok (.aconst_null, 1) := by decide +kernel
theorem dX4_drop_15 : decode cX4_drop 15 = .ok (.putfield 42, 3) := by decide +kernel
theorem dX4_drop_18 : decode cX4_drop 18 = .ok (.iload_n 1, 1) := by decide +kernel
theorem dX4_drop_19 : decode cX4_drop 19 = .ok (.ireturn, 1) := by decide +kernel
theorem dX4_rounds_0 : decode cX4_rounds 0 = .ok (.aload_n 0, 1) := by decide +kernel
theorem dX4_rounds_1 : decode cX4_rounds 1 = .ok (.getfield 38, 3) := by decide +kernel
theorem dX4_rounds_4 : decode cX4_rounds 4 = .ok (.ireturn, 1) := by decide +kernel
theorem dX4_told_0 : decode cX4_told 0 = .ok (.aload_n 0, 1) := by decide +kernel
theorem dX4_told_1 : decode cX4_told 1 = .ok (.invokevirtual 63, 3) := by decide +kernel
theorem dX4_told_4 : decode cX4_told 4 = .ok (.aload_n 0, 1) := by decide +kernel
theorem dX4_told_5 : decode cX4_told 5 = .ok (.iload_n 1, 1) := by decide +kernel
theorem dX4_told_6 : decode cX4_told 6 = .ok (.invokevirtual 141, 3) := by decide +kernel
theorem dX4_told_9 : decode cX4_told 9 = .ok (.astore_n 3, 1) := by decide +kernel
theorem dX4_told_10 : decode cX4_told 10 = .ok (.iload_n 2, 1) := by decide +kernel
theorem dX4_told_11 : decode cX4_told 11 = .ok (.tableswitch 40 0 2 #[25, 30, 35], 25) := by decide +kernel
theorem dX4_told_36 : decode cX4_told 36 = .ok (.aload_n 3, 1) := by decide +kernel
theorem dX4_told_37 : decode cX4_told 37 = .ok (.getfield 71, 3) := by decide +kernel
theorem dX4_told_40 : decode cX4_told 40 = .ok (.ireturn, 1) := by decide +kernel
theorem dX4_told_41 : decode cX4_told 41 = .ok (.aload_n 3, 1) := by decide +kernel
theorem dX4_told_42 : decode cX4_told 42 = .ok (.getfield 90, 3) := by decide +kernel
theorem dX4_told_45 : decode cX4_told 45 = .ok (.ireturn, 1) := by decide +kernel
theorem dX4_told_46 : decode cX4_told 46 = .ok (.aload_n 3, 1) := by decide +kernel
theorem dX4_told_47 : decode cX4_told 47 = .ok (.getfield 80, 3) := by decide +kernel
theorem dX4_told_50 : decode cX4_told 50 = .ok (.ireturn, 1) := by decide +kernel
theorem dX4_told_51 : decode cX4_told 51 = .ok (.new 145, 3) := by decide +kernel
theorem dX4_told_54 : decode cX4_told 54 = .ok (.dup, 1) := by decide +kernel
theorem dX4_told_55 : decode cX4_told 55 = .ok (.ldc 147, 2) := by decide +kernel
theorem dX4_told_57 : decode cX4_told 57 = .ok (.invokespecial 149, 3) := by decide +kernel
theorem dX4_told_60 : decode cX4_told 60 = .ok (.athrow, 1) := by decide +kernel
theorem dX4_form_0 : decode cX4_form 0 = .ok (.aload_n 0, 1) := by decide +kernel
theorem dX4_form_1 : decode cX4_form 1 = .ok (.invokevirtual 63, 3) := by decide +kernel
theorem dX4_form_4 : decode cX4_form 4 = .ok (.aload_n 0, 1) := by decide +kernel
theorem dX4_form_5 : decode cX4_form 5 = .ok (.iload_n 1, 1) := by decide +kernel
theorem dX4_form_6 : decode cX4_form 6 = .ok (.invokevirtual 141, 3) := by decide +kernel
theorem dX4_form_9 : decode cX4_form 9 = .ok (.astore 4, 2) := by decide +kernel
theorem dX4_form_11 : decode cX4_form 11 = .ok (.iload_n 3, 1) := by decide +kernel
theorem dX4_form_12 : decode cX4_form 12 = .ok (.invokestatic 150, 3) := by decide +kernel
theorem dX4_form_15 : decode cX4_form 15 = .ok (.iload_n 2, 1) := by decide +kernel
theorem dX4_form_16 : decode cX4_form 16 = .ok (.tableswitch 61 0 2 #[28, 39, 50], 28) := by decide +kernel
theorem dX4_form_44 : decode cX4_form 44 = .ok (.aload 4, 2) := by decide +kernel
theorem dX4_form_46 : decode cX4_form 46 = .ok (.getfield 97, 3) := by decide +kernel
theorem dX4_form_49 : decode cX4_form 49 = .ok (.iload_n 3, 1) := by decide +kernel
theorem dX4_form_50 : decode cX4_form 50 = .ok (.invokevirtual 153, 3) := by decide +kernel
theorem dX4_form_53 : decode cX4_form 53 = .ok (.l2i, 1) := by decide +kernel
theorem dX4_form_54 : decode cX4_form 54 = .ok (.ireturn, 1) := by decide +kernel
theorem dX4_form_55 : decode cX4_form 55 = .ok (.aload 4, 2) := by decide +kernel
theorem dX4_form_57 : decode cX4_form 57 = .ok (.getfield 104, 3) := by decide +kernel
theorem dX4_form_60 : decode cX4_form 60 = .ok (.iload_n 3, 1) := by decide +kernel
theorem dX4_form_61 : decode cX4_form 61 = .ok (.invokevirtual 153, 3) := by decide +kernel
theorem dX4_form_64 : decode cX4_form 64 = .ok (.l2i, 1) := by decide +kernel
theorem dX4_form_65 : decode cX4_form 65 = .ok (.ireturn, 1) := by decide +kernel
theorem dX4_form_66 : decode cX4_form 66 = .ok (.aload 4, 2) := by decide +kernel
theorem dX4_form_68 : decode cX4_form 68 = .ok (.getfield 111, 3) := by decide +kernel
theorem dX4_form_71 : decode cX4_form 71 = .ok (.iload_n 3, 1) := by decide +kernel
theorem dX4_form_72 : decode cX4_form 72 = .ok (.invokevirtual 153, 3) := by decide +kernel
theorem dX4_form_75 : decode cX4_form 75 = .ok (.l2i, 1) := by decide +kernel
theorem dX4_form_76 : decode cX4_form 76 = .ok (.ireturn, 1) := by decide +kernel
theorem dX4_form_77 : decode cX4_form 77 = .ok (.new 145, 3) := by decide +kernel
theorem dX4_form_80 : decode cX4_form 80 = .ok (.dup, 1) := by decide +kernel
theorem dX4_form_81 : decode cX4_form 81 = .ok (.ldc 157, 2) := by decide +kernel
theorem dX4_form_83 : decode cX4_form 83 = .ok (.invokespecial 149, 3) := by decide +kernel
theorem dX4_form_86 : decode cX4_form 86 = .ok (.athrow, 1) := by decide +kernel
theorem dX4_verify_0 : decode cX4_verify 0 = .ok (.aload_n 0, 1) := by decide +kernel
theorem dX4_verify_1 : decode cX4_verify 1 = .ok (.invokevirtual 63, 3) := by decide +kernel
theorem dX4_verify_4 : decode cX4_verify 4 = .ok (.aload_n 0, 1) := by decide +kernel
theorem dX4_verify_5 : decode cX4_verify 5 = .ok (.iload_n 1, 1) := by decide +kernel
theorem dX4_verify_6 : decode cX4_verify 6 = .ok (.invokevirtual 159, 3) := by decide +kernel
theorem dX4_verify_9 : decode cX4_verify 9 = .ok (.astore_n 2, 1) := by decide +kernel
theorem dX4_verify_10 : decode cX4_verify 10 = .ok (.aload_n 0, 1) := by decide +kernel
theorem dX4_verify_11 : decode cX4_verify 11 = .ok (.getfield 10, 3) := by decide +kernel
theorem dX4_verify_14 : decode cX4_verify 14 = .ok (.aload_n 2, 1) := by decide +kernel
theorem dX4_verify_15 : decode cX4_verify 15 = .ok (.getfield 97, 3) := by decide +kernel
theorem dX4_verify_18 : decode cX4_verify 18 = .ok (.aload_n 2, 1) := by decide +kernel
theorem dX4_verify_19 : decode cX4_verify 19 = .ok (.getfield 90, 3) := by decide +kernel
theorem dX4_verify_22 : decode cX4_verify 22 = .ok (.invokevirtual 162, 3) := by decide +kernel
theorem dX4_verify_25 : decode cX4_verify 25 = .ok (.ifCond .eq 37, 3) := by decide +kernel
theorem dX4_verify_28 : decode cX4_verify 28 = .ok (.aload_n 0, 1) := by decide +kernel
theorem dX4_verify_29 : decode cX4_verify 29 = .ok (.getfield 10, 3) := by decide +kernel
theorem dX4_verify_32 : decode cX4_verify 32 = .ok (.aload_n 2, 1) := by decide +kernel
theorem dX4_verify_33 : decode cX4_verify 33 = .ok (.getfield 97, 3) := by decide +kernel
theorem dX4_verify_36 : decode cX4_verify 36 = .ok (.aload_n 2, 1) := by decide +kernel
theorem dX4_verify_37 : decode cX4_verify 37 = .ok (.getfield 104, 3) := by decide +kernel
theorem dX4_verify_40 : decode cX4_verify 40 = .ok (.aload_n 2, 1) := by decide +kernel
theorem dX4_verify_41 : decode cX4_verify 41 = .ok (.getfield 111, 3) := by decide +kernel
theorem dX4_verify_44 : decode cX4_verify 44 = .ok (.aload_n 2, 1) := by decide +kernel
theorem dX4_verify_45 : decode cX4_verify 45 = .ok (.getfield 80, 3) := by decide +kernel
theorem dX4_verify_48 : decode cX4_verify 48 = .ok (.aload_n 2, 1) := by decide +kernel
theorem dX4_verify_49 : decode cX4_verify 49 = .ok (.getfield 71, 3) := by decide +kernel
theorem dX4_verify_52 : decode cX4_verify 52 = .ok (.invokevirtual 166, 3) := by decide +kernel
theorem dX4_verify_55 : decode cX4_verify 55 = .ok (.ifCond .eq 7, 3) := by decide +kernel
theorem dX4_verify_58 : decode cX4_verify 58 = .ok (.iconst 1, 1) := by decide +kernel
theorem dX4_verify_59 : decode cX4_verify 59 = .ok (.goto 4, 3) := by decide +kernel
theorem dX4_verify_62 : decode cX4_verify 62 = .ok (.iconst 0, 1) := by decide +kernel
theorem dX4_verify_63 : decode cX4_verify 63 = .ok (.ireturn, 1) := by decide +kernel
theorem dX4_put_0 : decode cX4_put 0 = .ok (.aload_n 0, 1) := by decide +kernel
theorem dX4_put_1 : decode cX4_put 1 = .ok (.invokevirtual 63, 3) := by decide +kernel
theorem dX4_put_4 : decode cX4_put 4 = .ok (.iload_n 1, 1) := by decide +kernel
theorem dX4_put_5 : decode cX4_put 5 = .ok (.invokestatic 170, 3) := by decide +kernel
theorem dX4_put_8 : decode cX4_put 8 = .ok (.iload_n 2, 1) := by decide +kernel
theorem dX4_put_9 : decode cX4_put 9 = .ok (.iconst 1, 1) := by decide +kernel
theorem dX4_put_10 : decode cX4_put 10 = .ok (.if_icmp .lt 35, 3) := by decide +kernel
theorem dX4_put_13 : decode cX4_put 13 = .ok (.iload_n 2, 1) := by decide +kernel
theorem dX4_put_14 : decode cX4_put 14 = .ok (.ldc 173, 2) := by decide +kernel
theorem dX4_put_16 : decode cX4_put 16 = .ok (.if_icmp .gt 29, 3) := by decide +kernel
theorem dX4_put_19 : decode cX4_put 19 = .ok (.iload_n 3, 1) := by decide +kernel
theorem dX4_put_20 : decode cX4_put 20 = .ok (.ldc 174, 2) := by decide +kernel
theorem dX4_put_22 : decode cX4_put 22 = .ok (.if_icmp .lt 23, 3) := by decide +kernel
theorem dX4_put_25 : decode cX4_put 25 = .ok (.iload_n 3, 1) := by decide +kernel
theorem dX4_put_26 : decode cX4_put 26 = .ok (.ldc 173, 2) := by decide +kernel
theorem dX4_put_28 : decode cX4_put 28 = .ok (.if_icmp .gt 17, 3) := by decide +kernel
theorem dX4_put_31 : decode cX4_put 31 = .ok (.aload_n 0, 1) := by decide +kernel
theorem dX4_put_32 : decode cX4_put 32 = .ok (.getfield 10, 3) := by decide +kernel
theorem dX4_put_35 : decode cX4_put 35 = .ok (.iload_n 2, 1) := by decide +kernel
theorem dX4_put_36 : decode cX4_put 36 = .ok (.i2l, 1) := by decide +kernel
theorem dX4_put_37 : decode cX4_put 37 = .ok (.iload_n 3, 1) := by decide +kernel
theorem dX4_put_38 : decode cX4_put 38 = .ok (.i2l, 1) := by decide +kernel
theorem dX4_put_39 : decode cX4_put 39 = .ok (.invokevirtual 175, 3) := by decide +kernel
theorem dX4_put_42 : decode cX4_put 42 = .ok (.ifCond .ne 13, 3) := by decide +kernel
theorem dX4_put_45 : decode cX4_put 45 = .ok (.new 47, 3) := by decide +kernel
theorem dX4_put_48 : decode cX4_put 48 = .ok (.dup, 1) := by decide +kernel
theorem dX4_put_49 : decode cX4_put 49 = .ok (.ldc 179, 2) := by decide +kernel
theorem dX4_put_51 : decode cX4_put 51 = .ok (.invokespecial 51, 3) := by decide +kernel
theorem dX4_put_54 : decode cX4_put 54 = .ok (.athrow, 1) := by decide +kernel
theorem dX4_put_55 : decode cX4_put 55 = .ok (.aload_n 0, 1) := by decide +kernel
theorem dX4_put_56 : decode cX4_put 56 = .ok (.getfield 10, 3) := by decide +kernel
theorem dX4_put_59 : decode cX4_put 59 = .ok (.aload_n 0, 1) := by decide +kernel
theorem dX4_put_60 : decode cX4_put 60 = .ok (.getfield 25, 3) := by decide +kernel
theorem dX4_put_63 : decode cX4_put 63 = .ok (.iload_n 1, 1) := by decide +kernel
theorem dX4_put_64 : decode cX4_put 64 = .ok (.aaload, 1) := by decide +kernel
theorem dX4_put_65 : decode cX4_put 65 = .ok (.iload_n 2, 1) := by decide +kernel
theorem dX4_put_66 : decode cX4_put 66 = .ok (.i2l, 1) := by decide +kernel
theorem dX4_put_67 : decode cX4_put 67 = .ok (.iload_n 3, 1) := by decide +kernel
theorem dX4_put_68 : decode cX4_put 68 = .ok (.i2l, 1) := by decide +kernel
theorem dX4_put_69 : decode cX4_put 69 = .ok (.invokevirtual 181, 3) := by decide +kernel
theorem dX4_put_72 : decode cX4_put 72 = .ok (.aload_n 0, 1) := by decide +kernel
theorem dX4_put_73 : decode cX4_put 73 = .ok (.getfield 30, 3) := by decide +kernel
theorem dX4_put_76 : decode cX4_put 76 = .ok (.iload_n 1, 1) := by decide +kernel
theorem dX4_put_77 : decode cX4_put 77 = .ok (.iconst 1, 1) := by decide +kernel
theorem dX4_put_78 : decode cX4_put 78 = .ok (.bastore, 1) := by decide +kernel
theorem dX4_put_79 : decode cX4_put 79 = .ok (.return_, 1) := by decide +kernel
theorem dX4_buffer_0 : decode cX4_buffer 0 = .ok (.aload_n 0, 1) := by decide +kernel
theorem dX4_buffer_1 : decode cX4_buffer 1 = .ok (.invokevirtual 63, 3) := by decide +kernel
theorem dX4_buffer_4 : decode cX4_buffer 4 = .ok (.iload_n 1, 1) := by decide +kernel
theorem dX4_buffer_5 : decode cX4_buffer 5 = .ok (.invokestatic 170, 3) := by decide +kernel
theorem dX4_buffer_8 : decode cX4_buffer 8 = .ok (.iload_n 2, 1) := by decide +kernel
theorem dX4_buffer_9 : decode cX4_buffer 9 = .ok (.invokestatic 150, 3) := by decide +kernel
theorem dX4_buffer_12 : decode cX4_buffer 12 = .ok (.aload_n 0, 1) := by decide +kernel
theorem dX4_buffer_13 : decode cX4_buffer 13 = .ok (.iload_n 1, 1) := by decide +kernel
theorem dX4_buffer_14 : decode cX4_buffer 14 = .ok (.invokevirtual 185, 3) := by decide +kernel
theorem dX4_buffer_17 : decode cX4_buffer 17 = .ok (.aload_n 0, 1) := by decide +kernel
theorem dX4_buffer_18 : decode cX4_buffer 18 = .ok (.getfield 25, 3) := by decide +kernel
theorem dX4_buffer_21 : decode cX4_buffer 21 = .ok (.iload_n 1, 1) := by decide +kernel
theorem dX4_buffer_22 : decode cX4_buffer 22 = .ok (.aaload, 1) := by decide +kernel
theorem dX4_buffer_23 : decode cX4_buffer 23 = .ok (.iload_n 2, 1) := by decide +kernel
theorem dX4_buffer_24 : decode cX4_buffer 24 = .ok (.invokevirtual 153, 3) := by decide +kernel
theorem dX4_buffer_27 : decode cX4_buffer 27 = .ok (.lreturn, 1) := by decide +kernel
theorem dX4_reduce_0 : decode cX4_reduce 0 = .ok (.aload_n 0, 1) := by decide +kernel
theorem dX4_reduce_1 : decode cX4_reduce 1 = .ok (.invokevirtual 63, 3) := by decide +kernel
theorem dX4_reduce_4 : decode cX4_reduce 4 = .ok (.iload_n 1, 1) := by decide +kernel
theorem dX4_reduce_5 : decode cX4_reduce 5 = .ok (.invokestatic 170, 3) := by decide +kernel
theorem dX4_reduce_8 : decode cX4_reduce 8 = .ok (.iload_n 2, 1) := by decide +kernel
theorem dX4_reduce_9 : decode cX4_reduce 9 = .ok (.invokestatic 170, 3) := by decide +kernel
theorem dX4_reduce_12 : decode cX4_reduce 12 = .ok (.aload_n 0, 1) := by decide +kernel
theorem dX4_reduce_13 : decode cX4_reduce 13 = .ok (.iload_n 1, 1) := by decide +kernel
theorem dX4_reduce_14 : decode cX4_reduce 14 = .ok (.invokevirtual 185, 3) := by decide +kernel
theorem dX4_reduce_17 : decode cX4_reduce 17 = .ok (.aload_n 0, 1) := by decide +kernel
theorem dX4_reduce_18 : decode cX4_reduce 18 = .ok (.getfield 25, 3) := by decide +kernel
theorem dX4_reduce_21 : decode cX4_reduce 21 = .ok (.iload_n 2, 1) := by decide +kernel
theorem dX4_reduce_22 : decode cX4_reduce 22 = .ok (.aaload, 1) := by decide +kernel
theorem dX4_reduce_23 : decode cX4_reduce 23 = .ok (.aload_n 0, 1) := by decide +kernel
theorem dX4_reduce_24 : decode cX4_reduce 24 = .ok (.getfield 25, 3) := by decide +kernel
theorem dX4_reduce_27 : decode cX4_reduce 27 = .ok (.iload_n 1, 1) := by decide +kernel
theorem dX4_reduce_28 : decode cX4_reduce 28 = .ok (.aaload, 1) := by decide +kernel
theorem dX4_reduce_29 : decode cX4_reduce 29 = .ok (.invokevirtual 107, 3) := by decide +kernel
theorem dX4_reduce_32 : decode cX4_reduce 32 = .ok (.aload_n 0, 1) := by decide +kernel
theorem dX4_reduce_33 : decode cX4_reduce 33 = .ok (.getfield 10, 3) := by decide +kernel
theorem dX4_reduce_36 : decode cX4_reduce 36 = .ok (.aload_n 0, 1) := by decide +kernel
theorem dX4_reduce_37 : decode cX4_reduce 37 = .ok (.getfield 25, 3) := by decide +kernel
theorem dX4_reduce_40 : decode cX4_reduce 40 = .ok (.iload_n 2, 1) := by decide +kernel
theorem dX4_reduce_41 : decode cX4_reduce 41 = .ok (.aaload, 1) := by decide +kernel
theorem dX4_reduce_42 : decode cX4_reduce 42 = .ok (.invokevirtual 188, 3) := by decide +kernel
theorem dX4_reduce_45 : decode cX4_reduce 45 = .ok (.aload_n 0, 1) := by decide +kernel
theorem dX4_reduce_46 : decode cX4_reduce 46 = .ok (.getfield 30, 3) := by decide +kernel
theorem dX4_reduce_49 : decode cX4_reduce 49 = .ok (.iload_n 2, 1) := by decide +kernel
theorem dX4_reduce_50 : decode cX4_reduce 50 = .ok (.iconst 1, 1) := by decide +kernel
theorem dX4_reduce_51 : decode cX4_reduce 51 = .ok (.bastore, 1) := by decide +kernel
theorem dX4_reduce_52 : decode cX4_reduce 52 = .ok (.return_, 1) := by decide +kernel
theorem dX4_multiply_0 : decode cX4_multiply 0 = .ok (.aload_n 0, 1) := by decide +kernel
theorem dX4_multiply_1 : decode cX4_multiply 1 = .ok (.invokevirtual 63, 3) := by decide +kernel
theorem dX4_multiply_4 : decode cX4_multiply 4 = .ok (.iload_n 1, 1) := by decide +kernel
theorem dX4_multiply_5 : decode cX4_multiply 5 = .ok (.invokestatic 170, 3) := by decide +kernel
theorem dX4_multiply_8 : decode cX4_multiply 8 = .ok (.iload_n 2, 1) := by decide +kernel
theorem dX4_multiply_9 : decode cX4_multiply 9 = .ok (.invokestatic 170, 3) := by decide +kernel
theorem dX4_multiply_12 : decode cX4_multiply 12 = .ok (.iload_n 3, 1) := by decide +kernel
theorem dX4_multiply_13 : decode cX4_multiply 13 = .ok (.invokestatic 170, 3) := by decide +kernel
theorem dX4_multiply_16 : decode cX4_multiply 16 = .ok (.aload_n 0, 1) := by decide +kernel
theorem dX4_multiply_17 : decode cX4_multiply 17 = .ok (.iload_n 1, 1) := by decide +kernel
theorem dX4_multiply_18 : decode cX4_multiply 18 = .ok (.invokevirtual 185, 3) := by decide +kernel
theorem dX4_multiply_21 : decode cX4_multiply 21 = .ok (.aload_n 0, 1) := by decide +kernel
theorem dX4_multiply_22 : decode cX4_multiply 22 = .ok (.iload_n 2, 1) := by decide +kernel
theorem dX4_multiply_23 : decode cX4_multiply 23 = .ok (.invokevirtual 185, 3) := by decide +kernel
theorem dX4_multiply_26 : decode cX4_multiply 26 = .ok (.aload_n 0, 1) := by decide +kernel
theorem dX4_multiply_27 : decode cX4_multiply 27 = .ok (.getfield 10, 3) := by decide +kernel
theorem dX4_multiply_30 : decode cX4_multiply 30 = .ok (.aload_n 0, 1) := by decide +kernel
theorem dX4_multiply_31 : decode cX4_multiply 31 = .ok (.getfield 25, 3) := by decide +kernel
theorem dX4_multiply_34 : decode cX4_multiply 34 = .ok (.iload_n 1, 1) := by decide +kernel
theorem dX4_multiply_35 : decode cX4_multiply 35 = .ok (.aaload, 1) := by decide +kernel
theorem dX4_multiply_36 : decode cX4_multiply 36 = .ok (.aload_n 0, 1) := by decide +kernel
theorem dX4_multiply_37 : decode cX4_multiply 37 = .ok (.getfield 25, 3) := by decide +kernel
theorem dX4_multiply_40 : decode cX4_multiply 40 = .ok (.iload_n 2, 1) := by decide +kernel
theorem dX4_multiply_41 : decode cX4_multiply 41 = .ok (.aaload, 1) := by decide +kernel
theorem dX4_multiply_42 : decode cX4_multiply 42 = .ok (.aload_n 0, 1) := by decide +kernel
theorem dX4_multiply_43 : decode cX4_multiply 43 = .ok (.getfield 25, 3) := by decide +kernel
theorem dX4_multiply_46 : decode cX4_multiply 46 = .ok (.iload_n 3, 1) := by decide +kernel
theorem dX4_multiply_47 : decode cX4_multiply 47 = .ok (.aaload, 1) := by decide +kernel
theorem dX4_multiply_48 : decode cX4_multiply 48 = .ok (.invokevirtual 125, 3) := by decide +kernel
theorem dX4_multiply_51 : decode cX4_multiply 51 = .ok (.aload_n 0, 1) := by decide +kernel
theorem dX4_multiply_52 : decode cX4_multiply 52 = .ok (.getfield 30, 3) := by decide +kernel
theorem dX4_multiply_55 : decode cX4_multiply 55 = .ok (.iload_n 3, 1) := by decide +kernel
theorem dX4_multiply_56 : decode cX4_multiply 56 = .ok (.iconst 1, 1) := by decide +kernel
theorem dX4_multiply_57 : decode cX4_multiply 57 = .ok (.bastore, 1) := by decide +kernel
theorem dX4_multiply_58 : decode cX4_multiply 58 = .ok (.return_, 1) := by decide +kernel
theorem dX4_raise_0 : decode cX4_raise 0 = .ok (.aload_n 0, 1) := by decide +kernel
theorem dX4_raise_1 : decode cX4_raise 1 = .ok (.invokevirtual 63, 3) := by decide +kernel
theorem dX4_raise_4 : decode cX4_raise 4 = .ok (.iload_n 1, 1) := by decide +kernel
theorem dX4_raise_5 : decode cX4_raise 5 = .ok (.invokestatic 170, 3) := by decide +kernel
theorem dX4_raise_8 : decode cX4_raise 8 = .ok (.iload_n 3, 1) := by decide +kernel
theorem dX4_raise_9 : decode cX4_raise 9 = .ok (.invokestatic 170, 3) := by decide +kernel
theorem dX4_raise_12 : decode cX4_raise 12 = .ok (.iload_n 2, 1) := by decide +kernel
theorem dX4_raise_13 : decode cX4_raise 13 = .ok (.ifCond .ge 13, 3) := by decide +kernel
theorem dX4_raise_16 : decode cX4_raise 16 = .ok (.new 47, 3) := by decide +kernel
theorem dX4_raise_19 : decode cX4_raise 19 = .ok (.dup, 1) := by decide +kernel
theorem dX4_raise_20 : decode cX4_raise 20 = .ok (.ldc 191, 2) := by decide +kernel
theorem dX4_raise_22 : decode cX4_raise 22 = .ok (.invokespecial 51, 3) := by decide +kernel
theorem dX4_raise_25 : decode cX4_raise 25 = .ok (.athrow, 1) := by decide +kernel
theorem dX4_raise_26 : decode cX4_raise 26 = .ok (.aload_n 0, 1) := by decide +kernel
theorem dX4_raise_27 : decode cX4_raise 27 = .ok (.iload_n 1, 1) := by decide +kernel
theorem dX4_raise_28 : decode cX4_raise 28 = .ok (.invokevirtual 185, 3) := by decide +kernel
theorem dX4_raise_31 : decode cX4_raise 31 = .ok (.aload_n 0, 1) := by decide +kernel
theorem dX4_raise_32 : decode cX4_raise 32 = .ok (.getfield 10, 3) := by decide +kernel
theorem dX4_raise_35 : decode cX4_raise 35 = .ok (.aload_n 0, 1) := by decide +kernel
theorem dX4_raise_36 : decode cX4_raise 36 = .ok (.getfield 25, 3) := by decide +kernel
theorem dX4_raise_39 : decode cX4_raise 39 = .ok (.iload_n 1, 1) := by decide +kernel
theorem dX4_raise_40 : decode cX4_raise 40 = .ok (.aaload, 1) := by decide +kernel
theorem dX4_raise_41 : decode cX4_raise 41 = .ok (.iload_n 2, 1) := by decide +kernel
theorem dX4_raise_42 : decode cX4_raise 42 = .ok (.aload_n 0, 1) := by decide +kernel
theorem dX4_raise_43 : decode cX4_raise 43 = .ok (.getfield 25, 3) := by decide +kernel
theorem dX4_raise_46 : decode cX4_raise 46 = .ok (.iload_n 3, 1) := by decide +kernel
theorem dX4_raise_47 : decode cX4_raise 47 = .ok (.aaload, 1) := by decide +kernel
theorem dX4_raise_48 : decode cX4_raise 48 = .ok (.invokevirtual 100, 3) := by decide +kernel
theorem dX4_raise_51 : decode cX4_raise 51 = .ok (.aload_n 0, 1) := by decide +kernel
theorem dX4_raise_52 : decode cX4_raise 52 = .ok (.getfield 30, 3) := by decide +kernel
theorem dX4_raise_55 : decode cX4_raise 55 = .ok (.iload_n 3, 1) := by decide +kernel
theorem dX4_raise_56 : decode cX4_raise 56 = .ok (.iconst 1, 1) := by decide +kernel
theorem dX4_raise_57 : decode cX4_raise 57 = .ok (.bastore, 1) := by decide +kernel
theorem dX4_raise_58 : decode cX4_raise 58 = .ok (.return_, 1) := by decide +kernel
theorem dX4_test_0 : decode cX4_test 0 = .ok (.aload_n 0, 1) := by decide +kernel
theorem dX4_test_1 : decode cX4_test 1 = .ok (.invokevirtual 63, 3) := by decide +kernel
theorem dX4_test_4 : decode cX4_test 4 = .ok (.aload_n 0, 1) := by decide +kernel
theorem dX4_test_5 : decode cX4_test 5 = .ok (.iload_n 1, 1) := by decide +kernel
theorem dX4_test_6 : decode cX4_test 6 = .ok (.invokevirtual 159, 3) := by decide +kernel
theorem dX4_test_9 : decode cX4_test 9 = .ok (.astore_n 2, 1) := by decide +kernel
theorem dX4_test_10 : decode cX4_test 10 = .ok (.iconst 0, 1) := by decide +kernel
theorem dX4_test_11 : decode cX4_test 11 = .ok (.istore_n 3, 1) := by decide +kernel
theorem dX4_test_12 : decode cX4_test 12 = .ok (.iload_n 3, 1) := by decide +kernel
theorem dX4_test_13 : decode cX4_test 13 = .ok (.iconst 3, 1) := by decide +kernel
theorem dX4_test_14 : decode cX4_test 14 = .ok (.if_icmp .ge 14, 3) := by decide +kernel
theorem dX4_test_17 : decode cX4_test 17 = .ok (.aload_n 0, 1) := by decide +kernel
theorem dX4_test_18 : decode cX4_test 18 = .ok (.iload_n 3, 1) := by decide +kernel
theorem dX4_test_19 : decode cX4_test 19 = .ok (.invokevirtual 185, 3) := by decide +kernel
theorem dX4_test_22 : decode cX4_test 22 = .ok (.iinc 3 1, 3) := by decide +kernel
theorem dX4_test_25 : decode cX4_test 25 = .ok (.goto (-13), 3) := by decide +kernel
theorem dX4_test_28 : decode cX4_test 28 = .ok (.aload_n 0, 1) := by decide +kernel
theorem dX4_test_29 : decode cX4_test 29 = .ok (.getfield 25, 3) := by decide +kernel
theorem dX4_test_32 : decode cX4_test 32 = .ok (.iconst 0, 1) := by decide +kernel
theorem dX4_test_33 : decode cX4_test 33 = .ok (.aaload, 1) := by decide +kernel
theorem dX4_test_34 : decode cX4_test 34 = .ok (.astore_n 3, 1) := by decide +kernel
theorem dX4_test_35 : decode cX4_test 35 = .ok (.aload_n 0, 1) := by decide +kernel
theorem dX4_test_36 : decode cX4_test 36 = .ok (.getfield 25, 3) := by decide +kernel
theorem dX4_test_39 : decode cX4_test 39 = .ok (.iconst 1, 1) := by decide +kernel
theorem dX4_test_40 : decode cX4_test 40 = .ok (.aaload, 1) := by decide +kernel
theorem dX4_test_41 : decode cX4_test 41 = .ok (.astore 4, 2) := by decide +kernel
theorem dX4_test_43 : decode cX4_test 43 = .ok (.aload_n 0, 1) := by decide +kernel
theorem dX4_test_44 : decode cX4_test 44 = .ok (.getfield 25, 3) := by decide +kernel
theorem dX4_test_47 : decode cX4_test 47 = .ok (.iconst 2, 1) := by decide +kernel
theorem dX4_test_48 : decode cX4_test 48 = .ok (.aaload, 1) := by decide +kernel
theorem dX4_test_49 : decode cX4_test 49 = .ok (.astore 5, 2) := by decide +kernel
theorem dX4_test_51 : decode cX4_test 51 = .ok (.aload_n 3, 1) := by decide +kernel
theorem dX4_test_52 : decode cX4_test 52 = .ok (.aload_n 2, 1) := by decide +kernel
theorem dX4_test_53 : decode cX4_test 53 = .ok (.getfield 97, 3) := by decide +kernel
theorem dX4_test_56 : decode cX4_test 56 = .ok (.invokevirtual 193, 3) := by decide +kernel
theorem dX4_test_59 : decode cX4_test 59 = .ok (.ifCond .ne 5, 3) := by decide +kernel
theorem dX4_test_62 : decode cX4_test 62 = .ok (.iconst 1, 1) := by decide +kernel
theorem dX4_test_63 : decode cX4_test 63 = .ok (.ireturn, 1) := by decide +kernel
theorem dX4_test_64 : decode cX4_test 64 = .ok (.aload 4, 2) := by decide +kernel
theorem dX4_test_66 : decode cX4_test 66 = .ok (.invokevirtual 197, 3) := by decide +kernel
theorem dX4_test_69 : decode cX4_test 69 = .ok (.ifCond .eq 11, 3) := by decide +kernel
theorem dX4_test_72 : decode cX4_test 72 = .ok (.aload 5, 2) := by decide +kernel
theorem dX4_test_74 : decode cX4_test 74 = .ok (.invokevirtual 197, 3) := by decide +kernel
theorem dX4_test_77 : decode cX4_test 77 = .ok (.ifCond .ne 5, 3) := by decide +kernel
theorem dX4_test_80 : decode cX4_test 80 = .ok (.iconst 2, 1) := by decide +kernel
theorem dX4_test_81 : decode cX4_test 81 = .ok (.ireturn, 1) := by decide +kernel
theorem dX4_test_82 : decode cX4_test 82 = .ok (.aload_n 3, 1) := by decide +kernel
theorem dX4_test_83 : decode cX4_test 83 = .ok (.aload 4, 2) := by decide +kernel
theorem dX4_test_85 : decode cX4_test 85 = .ok (.aload_n 2, 1) := by decide +kernel
theorem dX4_test_86 : decode cX4_test 86 = .ok (.getfield 71, 3) := by decide +kernel
theorem dX4_test_89 : decode cX4_test 89 = .ok (.invokestatic 129, 3) := by decide +kernel
theorem dX4_test_92 : decode cX4_test 92 = .ok (.istore 6, 2) := by decide +kernel
theorem dX4_test_94 : decode cX4_test 94 = .ok (.aload_n 0, 1) := by decide +kernel
theorem dX4_test_95 : decode cX4_test 95 = .ok (.getfield 10, 3) := by decide +kernel
theorem dX4_test_98 : decode cX4_test 98 = .ok (.aload_n 3, 1) := by decide +kernel
theorem dX4_test_99 : decode cX4_test 99 = .ok (.aload 4, 2) := by decide +kernel
theorem dX4_test_101 : decode cX4_test 101 = .ok (.aload 5, 2) := by decide +kernel
theorem dX4_test_103 : decode cX4_test 103 = .ok (.iload 6, 2) := by decide +kernel
theorem dX4_test_105 : decode cX4_test 105 = .ok (.aload_n 2, 1) := by decide +kernel
theorem dX4_test_106 : decode cX4_test 106 = .ok (.getfield 71, 3) := by decide +kernel
theorem dX4_test_109 : decode cX4_test 109 = .ok (.invokevirtual 166, 3) := by decide +kernel
theorem dX4_test_112 : decode cX4_test 112 = .ok (.ifCond .eq 7, 3) := by decide +kernel
theorem dX4_test_115 : decode cX4_test 115 = .ok (.iconst 0, 1) := by decide +kernel
theorem dX4_test_116 : decode cX4_test 116 = .ok (.goto 4, 3) := by decide +kernel
theorem dX4_test_119 : decode cX4_test 119 = .ok (.iconst 3, 1) := by decide +kernel
theorem dX4_test_120 : decode cX4_test 120 = .ok (.ireturn, 1) := by decide +kernel
theorem dX4_order_0 : decode cX4_order 0 = .ok (.aload_n 0, 1) := by decide +kernel
theorem dX4_order_1 : decode cX4_order 1 = .ok (.invokevirtual 63, 3) := by decide +kernel
theorem dX4_order_4 : decode cX4_order 4 = .ok (.iload_n 1, 1) := by decide +kernel
theorem dX4_order_5 : decode cX4_order 5 = .ok (.iconst 1, 1) := by decide +kernel
theorem dX4_order_6 : decode cX4_order 6 = .ok (.if_icmp .lt 10, 3) := by decide +kernel
theorem dX4_order_9 : decode cX4_order 9 = .ok (.iload_n 1, 1) := by decide +kernel
theorem dX4_order_10 : decode cX4_order 10 = .ok (.sipush 1000, 3) := by decide +kernel
theorem dX4_order_13 : decode cX4_order 13 = .ok (.if_icmp .le 13, 3) := by decide +kernel
theorem dX4_order_16 : decode cX4_order 16 = .ok (.new 47, 3) := by decide +kernel
theorem dX4_order_19 : decode cX4_order 19 = .ok (.dup, 1) := by decide +kernel
theorem dX4_order_20 : decode cX4_order 20 = .ok (.ldc 201, 2) := by decide +kernel
theorem dX4_order_22 : decode cX4_order 22 = .ok (.invokespecial 51, 3) := by decide +kernel
theorem dX4_order_25 : decode cX4_order 25 = .ok (.athrow, 1) := by decide +kernel
theorem dX4_order_26 : decode cX4_order 26 = .ok (.aload_n 0, 1) := by decide +kernel
theorem dX4_order_27 : decode cX4_order 27 = .ok (.getfield 10, 3) := by decide +kernel
theorem dX4_order_30 : decode cX4_order 30 = .ok (.iload_n 1, 1) := by decide +kernel
theorem dX4_order_31 : decode cX4_order 31 = .ok (.invokevirtual 203, 3) := by decide +kernel
theorem dX4_order_34 : decode cX4_order 34 = .ok (.ireturn, 1) := by decide +kernel
theorem dX4_classes_0 : decode cX4_classes 0 = .ok (.aload_n 0, 1) := by decide +kernel
theorem dX4_classes_1 : decode cX4_classes 1 = .ok (.invokevirtual 63, 3) := by decide +kernel
theorem dX4_classes_4 : decode cX4_classes 4 = .ok (.aload_n 0, 1) := by decide +kernel
theorem dX4_classes_5 : decode cX4_classes 5 = .ok (.getfield 10, 3) := by decide +kernel
theorem dX4_classes_8 : decode cX4_classes 8 = .ok (.getfield 207, 3) := by decide +kernel
theorem dX4_classes_11 : decode cX4_classes 11 = .ok (.ldc 210, 2) := by decide +kernel
theorem dX4_classes_13 : decode cX4_classes 13 = .ok (.if_icmp .le 13, 3) := by decide +kernel
theorem dX4_classes_16 : decode cX4_classes 16 = .ok (.new 47, 3) := by decide +kernel
theorem dX4_classes_19 : decode cX4_classes 19 = .ok (.dup, 1) := by decide +kernel
theorem dX4_classes_20 : decode cX4_classes 20 = .ok (.ldc 211, 2) := by decide +kernel
theorem dX4_classes_22 : decode cX4_classes 22 = .ok (.invokespecial 51, 3) := by decide +kernel
theorem dX4_classes_25 : decode cX4_classes 25 = .ok (.athrow, 1) := by decide +kernel
theorem dX4_classes_26 : decode cX4_classes 26 = .ok (.aload_n 0, 1) := by decide +kernel
theorem dX4_classes_27 : decode cX4_classes 27 = .ok (.getfield 10, 3) := by decide +kernel
theorem dX4_classes_30 : decode cX4_classes 30 = .ok (.invokevirtual 213, 3) := by decide +kernel
theorem dX4_classes_33 : decode cX4_classes 33 = .ok (.ireturn, 1) := by decide +kernel
theorem dX4_needDiscriminant_0 : decode cX4_needDiscriminant 0 = .ok (.aload_n 0, 1) := by decide +kernel
theorem dX4_needDiscriminant_1 : decode cX4_needDiscriminant 1 = .ok (.getfield 34, 3) := by decide +kernel
theorem dX4_needDiscriminant_4 : decode cX4_needDiscriminant 4 = .ok (.ifCond .ne 13, 3) := by decide +kernel
theorem dX4_needDiscriminant_7 : decode cX4_needDiscriminant 7 = .ok (.new 54, 3) := by decide +kernel
theorem dX4_needDiscriminant_10 : decode cX4_needDiscriminant 10 = .ok (.dup, 1) := by decide +kernel
theorem dX4_needDiscriminant_11 : decode cX4_needDiscriminant 11 = .ok (.ldc 216, 2) := by decide +kernel
theorem dX4_needDiscriminant_13 : decode cX4_needDiscriminant 13 = .ok (.invokespecial 58, 3) := by decide +kernel
theorem dX4_needDiscriminant_16 : decode cX4_needDiscriminant 16 = .ok (.athrow, 1) := by decide +kernel
theorem dX4_needDiscriminant_17 : decode cX4_needDiscriminant 17 = .ok (.return_, 1) := by decide +kernel
theorem dX4_needTurns_0 : decode cX4_needTurns 0 = .ok (.iload_n 0, 1) := by decide +kernel
theorem dX4_needTurns_1 : decode cX4_needTurns 1 = .ok (.iconst 1, 1) := by decide +kernel
theorem dX4_needTurns_2 : decode cX4_needTurns 2 = .ok (.if_icmp .lt 10, 3) := by decide +kernel
theorem dX4_needTurns_5 : decode cX4_needTurns 5 = .ok (.iload_n 0, 1) := by decide +kernel
theorem dX4_needTurns_6 : decode cX4_needTurns 6 = .ok (.sipush 500, 3) := by decide +kernel
theorem dX4_needTurns_9 : decode cX4_needTurns 9 = .ok (.if_icmp .le 13, 3) := by decide +kernel
theorem dX4_needTurns_12 : decode cX4_needTurns 12 = .ok (.new 47, 3) := by decide +kernel
theorem dX4_needTurns_15 : decode cX4_needTurns 15 = .ok (.dup, 1) := by decide +kernel
theorem dX4_needTurns_16 : decode cX4_needTurns 16 = .ok (.ldc 218, 2) := by decide +kernel
theorem dX4_needTurns_18 : decode cX4_needTurns 18 = .ok (.invokespecial 51, 3) := by decide +kernel
theorem dX4_needTurns_21 : decode cX4_needTurns 21 = .ok (.athrow, 1) := by decide +kernel
theorem dX4_needTurns_22 : decode cX4_needTurns 22 = .ok (.return_, 1) := by decide +kernel
theorem dX4_needSlot_0 : decode cX4_needSlot 0 = .ok (.iload_n 0, 1) := by decide +kernel
theorem dX4_needSlot_1 : decode cX4_needSlot 1 = .ok (.ifCond .lt 8, 3) := by decide +kernel
theorem dX4_needSlot_4 : decode cX4_needSlot 4 = .ok (.iload_n 0, 1) := by decide +kernel
theorem dX4_needSlot_5 : decode cX4_needSlot 5 = .ok (.iconst 3, 1) := by decide +kernel
theorem dX4_needSlot_6 : decode cX4_needSlot 6 = .ok (.if_icmp .lt 13, 3) := by decide +kernel
theorem dX4_needSlot_9 : decode cX4_needSlot 9 = .ok (.new 145, 3) := by decide +kernel
theorem dX4_needSlot_12 : decode cX4_needSlot 12 = .ok (.dup, 1) := by decide +kernel
theorem dX4_needSlot_13 : decode cX4_needSlot 13 = .ok (.ldc 220, 2) := by decide +kernel
theorem dX4_needSlot_15 : decode cX4_needSlot 15 = .ok (.invokespecial 149, 3) := by decide +kernel
theorem dX4_needSlot_18 : decode cX4_needSlot 18 = .ok (.athrow, 1) := by decide +kernel
theorem dX4_needSlot_19 : decode cX4_needSlot 19 = .ok (.return_, 1) := by decide +kernel
theorem dX4_needPart_0 : decode cX4_needPart 0 = .ok (.iload_n 0, 1) := by decide +kernel
theorem dX4_needPart_1 : decode cX4_needPart 1 = .ok (.ifCond .lt 8, 3) := by decide +kernel
theorem dX4_needPart_4 : decode cX4_needPart 4 = .ok (.iload_n 0, 1) := by decide +kernel
theorem dX4_needPart_5 : decode cX4_needPart 5 = .ok (.iconst 3, 1) := by decide +kernel
theorem dX4_needPart_6 : decode cX4_needPart 6 = .ok (.if_icmp .lt 13, 3) := by decide +kernel
theorem dX4_needPart_9 : decode cX4_needPart 9 = .ok (.new 145, 3) := by decide +kernel
theorem dX4_needPart_12 : decode cX4_needPart 12 = .ok (.dup, 1) := by decide +kernel
theorem dX4_needPart_13 : decode cX4_needPart 13 = .ok (.ldc 222, 2) := by decide +kernel
theorem dX4_needPart_15 : decode cX4_needPart 15 = .ok (.invokespecial 149, 3) := by decide +kernel
theorem dX4_needPart_18 : decode cX4_needPart 18 = .ok (.athrow, 1) := by decide +kernel
theorem dX4_needPart_19 : decode cX4_needPart 19 = .ok (.return_, 1) := by decide +kernel
theorem dX4_needFilled_0 : decode cX4_needFilled 0 = .ok (.aload_n 0, 1) := by decide +kernel
theorem dX4_needFilled_1 : decode cX4_needFilled 1 = .ok (.getfield 30, 3) := by decide +kernel
theorem dX4_needFilled_4 : decode cX4_needFilled 4 = .ok (.iload_n 1, 1) := by decide +kernel
theorem dX4_needFilled_5 : decode cX4_needFilled 5 = .ok (.baload, 1) := by decide +kernel
theorem dX4_needFilled_6 : decode cX4_needFilled 6 = .ok (.ifCond .ne 13, 3) := by decide +kernel
theorem dX4_needFilled_9 : decode cX4_needFilled 9 = .ok (.new 224, 3) := by decide +kernel
theorem dX4_needFilled_12 : decode cX4_needFilled 12 = .ok (.dup, 1) := by decide +kernel
theorem dX4_needFilled_13 : decode cX4_needFilled 13 = .ok (.ldc 226, 2) := by decide +kernel
theorem dX4_needFilled_15 : decode cX4_needFilled 15 = .ok (.invokespecial 228, 3) := by decide +kernel
theorem dX4_needFilled_18 : decode cX4_needFilled 18 = .ok (.athrow, 1) := by decide +kernel
theorem dX4_needFilled_19 : decode cX4_needFilled 19 = .ok (.return_, 1) := by decide +kernel
theorem dX4_bookedRound_0 : decode cX4_bookedRound 0 = .ok (.iload_n 1, 1) := by decide +kernel
theorem dX4_bookedRound_1 : decode cX4_bookedRound 1 = .ok (.ifCond .lt 11, 3) := by decide +kernel
theorem dX4_bookedRound_4 : decode cX4_bookedRound 4 = .ok (.iload_n 1, 1) := by decide +kernel
theorem dX4_bookedRound_5 : decode cX4_bookedRound 5 = .ok (.aload_n 0, 1) := by decide +kernel
theorem dX4_bookedRound_6 : decode cX4_bookedRound 6 = .ok (.getfield 38, 3) := by decide +kernel
theorem dX4_bookedRound_9 : decode cX4_bookedRound 9 = .ok (.if_icmp .lt 13, 3) := by decide +kernel
theorem dX4_bookedRound_12 : decode cX4_bookedRound 12 = .ok (.new 145, 3) := by decide +kernel
theorem dX4_bookedRound_15 : decode cX4_bookedRound 15 = .ok (.dup, 1) := by decide +kernel
theorem dX4_bookedRound_16 : decode cX4_bookedRound 16 = .ok (.ldc 229, 2) := by decide +kernel
theorem dX4_bookedRound_18 : decode cX4_bookedRound 18 = .ok (.invokespecial 149, 3) := by decide +kernel
theorem dX4_bookedRound_21 : decode cX4_bookedRound 21 = .ok (.athrow, 1) := by decide +kernel
theorem dX4_bookedRound_22 : decode cX4_bookedRound 22 = .ok (.aload_n 0, 1) := by decide +kernel
theorem dX4_bookedRound_23 : decode cX4_bookedRound 23 = .ok (.getfield 18, 3) := by decide +kernel
theorem dX4_bookedRound_26 : decode cX4_bookedRound 26 = .ok (.iload_n 1, 1) := by decide +kernel
theorem dX4_bookedRound_27 : decode cX4_bookedRound 27 = .ok (.aaload, 1) := by decide +kernel
theorem dX4_bookedRound_28 : decode cX4_bookedRound 28 = .ok (.areturn, 1) := by decide +kernel
theorem dX4_bookedOrRunning_0 : decode cX4_bookedOrRunning 0 = .ok (.iload_n 1, 1) := by decide +kernel
theorem dX4_bookedOrRunning_1 : decode cX4_bookedOrRunning 1 = .ok (.iconst (-1), 1) := by decide +kernel
theorem dX4_bookedOrRunning_2 : decode cX4_bookedOrRunning 2 = .ok (.if_icmp .ne 15, 3) := by decide +kernel
theorem dX4_bookedOrRunning_5 : decode cX4_bookedOrRunning 5 = .ok (.aload_n 0, 1) := by decide +kernel
theorem dX4_bookedOrRunning_6 : decode cX4_bookedOrRunning 6 = .ok (.getfield 42, 3) := by decide +kernel
theorem dX4_bookedOrRunning_9 : decode cX4_bookedOrRunning 9 = .ok (.ifnull 8, 3) := by decide +kernel
theorem dX4_bookedOrRunning_12 : decode cX4_bookedOrRunning 12 = .ok (.aload_n 0, 1) := by decide +kernel
theorem dX4_bookedOrRunning_13 : decode cX4_bookedOrRunning 13 = .ok (.getfield 42, 3) := by decide +kernel
theorem dX4_bookedOrRunning_16 : decode cX4_bookedOrRunning 16 = .ok (.areturn, 1) := by decide +kernel
theorem dX4_bookedOrRunning_17 : decode cX4_bookedOrRunning 17 = .ok (.aload_n 0, 1) := by decide +kernel
theorem dX4_bookedOrRunning_18 : decode cX4_bookedOrRunning 18 = .ok (.iload_n 1, 1) := by decide +kernel
theorem dX4_bookedOrRunning_19 : decode cX4_bookedOrRunning 19 = .ok (.invokevirtual 159, 3) := by decide +kernel
theorem dX4_bookedOrRunning_22 : decode cX4_bookedOrRunning 22 = .ok (.areturn, 1) := by decide +kernel
theorem dX4_nextExponent_0 : decode cX4_nextExponent 0 = .ok (.iconst 1, 1) := by decide +kernel
theorem dX4_nextExponent_1 : decode cX4_nextExponent 1 = .ok (.aload_n 0, 1) := by decide +kernel
theorem dX4_nextExponent_2 : decode cX4_nextExponent 2 = .ok (.getfield 10, 3) := by decide +kernel
theorem dX4_nextExponent_5 : decode cX4_nextExponent 5 = .ok (.getfield 207, 3) := by decide +kernel
theorem dX4_nextExponent_8 : decode cX4_nextExponent 8 = .ok (.invokestatic 231, 3) := by decide +kernel
theorem dX4_nextExponent_11 : decode cX4_nextExponent 11 = .ok (.istore_n 1, 1) := by decide +kernel
theorem dX4_nextExponent_12 : decode cX4_nextExponent 12 = .ok (.iload_n 1, 1) := by decide +kernel
theorem dX4_nextExponent_13 : decode cX4_nextExponent 13 = .ok (.aload_n 0, 1) := by decide +kernel
theorem dX4_nextExponent_14 : decode cX4_nextExponent 14 = .ok (.getfield 38, 3) := by decide +kernel
theorem dX4_nextExponent_17 : decode cX4_nextExponent 17 = .ok (.invokestatic 231, 3) := by decide +kernel
theorem dX4_nextExponent_20 : decode cX4_nextExponent 20 = .ok (.istore_n 1, 1) := by decide +kernel
theorem dX4_nextExponent_21 : decode cX4_nextExponent 21 = .ok (.aload_n 0, 1) := by decide +kernel
theorem dX4_nextExponent_22 : decode cX4_nextExponent 22 = .ok (.getfield 38, 3) := by decide +kernel
theorem dX4_nextExponent_25 : decode cX4_nextExponent 25 = .ok (.ifCond .le 22, 3) := by decide +kernel
theorem dX4_nextExponent_28 : decode cX4_nextExponent 28 = .ok (.iload_n 1, 1) := by decide +kernel
theorem dX4_nextExponent_29 : decode cX4_nextExponent 29 = .ok (.aload_n 0, 1) := by decide +kernel
theorem dX4_nextExponent_30 : decode cX4_nextExponent 30 = .ok (.getfield 18, 3) := by decide +kernel
theorem dX4_nextExponent_33 : decode cX4_nextExponent 33 = .ok (.aload_n 0, 1) := by decide +kernel
theorem dX4_nextExponent_34 : decode cX4_nextExponent 34 = .ok (.getfield 38, 3) := by decide +kernel
theorem dX4_nextExponent_37 : decode cX4_nextExponent 37 = .ok (.iconst 1, 1) := by decide +kernel
theorem dX4_nextExponent_38 : decode cX4_nextExponent 38 = .ok (.isub, 1) := by decide +kernel
theorem dX4_nextExponent_39 : decode cX4_nextExponent 39 = .ok (.aaload, 1) := by decide +kernel
theorem dX4_nextExponent_40 : decode cX4_nextExponent 40 = .ok (.getfield 104, 3) := by decide +kernel
theorem dX4_nextExponent_43 : decode cX4_nextExponent 43 = .ok (.invokestatic 234, 3) := by decide +kernel
theorem dX4_nextExponent_46 : decode cX4_nextExponent 46 = .ok (.istore_n 1, 1) := by decide +kernel
theorem dX4_nextExponent_47 : decode cX4_nextExponent 47 = .ok (.iload_n 1, 1) := by decide +kernel
theorem dX4_nextExponent_48 : decode cX4_nextExponent 48 = .ok (.ldc 238, 2) := by decide +kernel
theorem dX4_nextExponent_50 : decode cX4_nextExponent 50 = .ok (.iand, 1) := by decide +kernel
theorem dX4_nextExponent_51 : decode cX4_nextExponent 51 = .ok (.iconst 1, 1) := by decide +kernel
theorem dX4_nextExponent_52 : decode cX4_nextExponent 52 = .ok (.iadd, 1) := by decide +kernel
theorem dX4_nextExponent_53 : decode cX4_nextExponent 53 = .ok (.ireturn, 1) := by decide +kernel
theorem dX4_primeOf_0 : decode cX4_primeOf 0 = .ok (.iconst 2, 1) := by decide +kernel
theorem dX4_primeOf_1 : decode cX4_primeOf 1 = .ok (.aload_n 0, 1) := by decide +kernel
theorem dX4_primeOf_2 : decode cX4_primeOf 2 = .ok (.invokestatic 234, 3) := by decide +kernel
theorem dX4_primeOf_5 : decode cX4_primeOf 5 = .ok (.istore_n 3, 1) := by decide +kernel
theorem dX4_primeOf_6 : decode cX4_primeOf 6 = .ok (.iload_n 3, 1) := by decide +kernel
theorem dX4_primeOf_7 : decode cX4_primeOf 7 = .ok (.aload_n 1, 1) := by decide +kernel
theorem dX4_primeOf_8 : decode cX4_primeOf 8 = .ok (.invokestatic 234, 3) := by decide +kernel
theorem dX4_primeOf_11 : decode cX4_primeOf 11 = .ok (.istore_n 3, 1) := by decide +kernel
theorem dX4_primeOf_12 : decode cX4_primeOf 12 = .ok (.iload_n 3, 1) := by decide +kernel
theorem dX4_primeOf_13 : decode cX4_primeOf 13 = .ok (.iload_n 2, 1) := by decide +kernel
theorem dX4_primeOf_14 : decode cX4_primeOf 14 = .ok (.invokestatic 231, 3) := by decide +kernel
theorem dX4_primeOf_17 : decode cX4_primeOf 17 = .ok (.istore_n 3, 1) := by decide +kernel
theorem dX4_primeOf_18 : decode cX4_primeOf 18 = .ok (.iload_n 3, 1) := by decide +kernel
theorem dX4_primeOf_19 : decode cX4_primeOf 19 = .ok (.ldc 238, 2) := by decide +kernel
theorem dX4_primeOf_21 : decode cX4_primeOf 21 = .ok (.iand, 1) := by decide +kernel
theorem dX4_primeOf_22 : decode cX4_primeOf 22 = .ok (.iconst 3, 1) := by decide +kernel
theorem dX4_primeOf_23 : decode cX4_primeOf 23 = .ok (.iadd, 1) := by decide +kernel
theorem dX4_primeOf_24 : decode cX4_primeOf 24 = .ok (.invokestatic 239, 3) := by decide +kernel
theorem dX4_primeOf_27 : decode cX4_primeOf 27 = .ok (.ireturn, 1) := by decide +kernel
theorem dX4_mixed_0 : decode cX4_mixed 0 = .ok (.iload_n 0, 1) := by decide +kernel
theorem dX4_mixed_1 : decode cX4_mixed 1 = .ok (.iload_n 1, 1) := by decide +kernel
theorem dX4_mixed_2 : decode cX4_mixed 2 = .ok (.ixor, 1) := by decide +kernel
theorem dX4_mixed_3 : decode cX4_mixed 3 = .ok (.ldc 242, 2) := by decide +kernel
theorem dX4_mixed_5 : decode cX4_mixed 5 = .ok (.imul, 1) := by decide +kernel
theorem dX4_mixed_6 : decode cX4_mixed 6 = .ok (.istore_n 2, 1) := by decide +kernel
theorem dX4_mixed_7 : decode cX4_mixed 7 = .ok (.iload_n 2, 1) := by decide +kernel
theorem dX4_mixed_8 : decode cX4_mixed 8 = .ok (.iload_n 2, 1) := by decide +kernel
theorem dX4_mixed_9 : decode cX4_mixed 9 = .ok (.bipush 15, 2) := by decide +kernel
theorem dX4_mixed_11 : decode cX4_mixed 11 = .ok (.iushr, 1) := by decide +kernel
theorem dX4_mixed_12 : decode cX4_mixed 12 = .ok (.ixor, 1) := by decide +kernel
theorem dX4_mixed_13 : decode cX4_mixed 13 = .ok (.ireturn, 1) := by decide +kernel
theorem dX4_mixedForm_0 : decode cX4_mixedForm 0 = .ok (.iload_n 0, 1) := by decide +kernel
theorem dX4_mixedForm_1 : decode cX4_mixedForm 1 = .ok (.aload_n 1, 1) := by decide +kernel
theorem dX4_mixedForm_2 : decode cX4_mixedForm 2 = .ok (.getfield 243, 3) := by decide +kernel
theorem dX4_mixedForm_5 : decode cX4_mixedForm 5 = .ok (.l2i, 1) := by decide +kernel
theorem dX4_mixedForm_6 : decode cX4_mixedForm 6 = .ok (.invokestatic 231, 3) := by decide +kernel
theorem dX4_mixedForm_9 : decode cX4_mixedForm 9 = .ok (.aload_n 1, 1) := by decide +kernel
theorem dX4_mixedForm_10 : decode cX4_mixedForm 10 = .ok (.getfield 247, 3) := by decide +kernel
theorem dX4_mixedForm_13 : decode cX4_mixedForm 13 = .ok (.l2i, 1) := by decide +kernel
theorem dX4_mixedForm_14 : decode cX4_mixedForm 14 = .ok (.invokestatic 231, 3) := by decide +kernel
theorem dX4_mixedForm_17 : decode cX4_mixedForm 17 = .ok (.ireturn, 1) := by decide +kernel
theorem dX4_leastPrimeFrom_0 : decode cX4_leastPrimeFrom 0 = .ok (.iload_n 0, 1) := by decide +kernel
theorem dX4_leastPrimeFrom_1 : decode cX4_leastPrimeFrom 1 = .ok (.istore_n 1, 1) := by decide +kernel
theorem dX4_leastPrimeFrom_2 : decode cX4_leastPrimeFrom 2 = .ok (.iconst 0, 1) := by decide +kernel
theorem dX4_leastPrimeFrom_3 : decode cX4_leastPrimeFrom 3 = .ok (.istore_n 2, 1) := by decide +kernel
theorem dX4_leastPrimeFrom_4 : decode cX4_leastPrimeFrom 4 = .ok (.iload_n 2, 1) := by decide +kernel
theorem dX4_leastPrimeFrom_5 : decode cX4_leastPrimeFrom 5 = .ok (.ldc 173, 2) := by decide +kernel
theorem dX4_leastPrimeFrom_7 : decode cX4_leastPrimeFrom 7 = .ok (.if_icmp .ge 19, 3) := by decide +kernel
theorem dX4_leastPrimeFrom_10 : decode cX4_leastPrimeFrom 10 = .ok (.iload_n 1, 1) := by decide +kernel
theorem dX4_leastPrimeFrom_11 : decode cX4_leastPrimeFrom 11 = .ok (.invokestatic 250, 3) := by decide +kernel
theorem dX4_leastPrimeFrom_14 : decode cX4_leastPrimeFrom 14 = .ok (.ifCond .ne 12, 3) := by decide +kernel
theorem dX4_leastPrimeFrom_17 : decode cX4_leastPrimeFrom 17 = .ok (.iinc 1 1, 3) := by decide +kernel
theorem dX4_leastPrimeFrom_20 : decode cX4_leastPrimeFrom 20 = .ok (.iinc 2 1, 3) := by decide +kernel
theorem dX4_leastPrimeFrom_23 : decode cX4_leastPrimeFrom 23 = .ok (.goto (-19), 3) := by decide +kernel
theorem dX4_leastPrimeFrom_26 : decode cX4_leastPrimeFrom 26 = .ok (.iload_n 1, 1) := by decide +kernel
theorem dX4_leastPrimeFrom_27 : decode cX4_leastPrimeFrom 27 = .ok (.ireturn, 1) := by decide +kernel
theorem dX4_isPrime_0 : decode cX4_isPrime 0 = .ok (.iconst 2, 1) := by decide +kernel
theorem dX4_isPrime_1 : decode cX4_isPrime 1 = .ok (.istore_n 1, 1) := by decide +kernel
theorem dX4_isPrime_2 : decode cX4_isPrime 2 = .ok (.iload_n 1, 1) := by decide +kernel
theorem dX4_isPrime_3 : decode cX4_isPrime 3 = .ok (.iload_n 1, 1) := by decide +kernel
theorem dX4_isPrime_4 : decode cX4_isPrime 4 = .ok (.imul, 1) := by decide +kernel
theorem dX4_isPrime_5 : decode cX4_isPrime 5 = .ok (.iload_n 0, 1) := by decide +kernel
theorem dX4_isPrime_6 : decode cX4_isPrime 6 = .ok (.if_icmp .gt 17, 3) := by decide +kernel
theorem dX4_isPrime_9 : decode cX4_isPrime 9 = .ok (.iload_n 0, 1) := by decide +kernel
theorem dX4_isPrime_10 : decode cX4_isPrime 10 = .ok (.iload_n 1, 1) := by decide +kernel
theorem dX4_isPrime_11 : decode cX4_isPrime 11 = .ok (.irem, 1) := by decide +kernel
theorem dX4_isPrime_12 : decode cX4_isPrime 12 = .ok (.ifCond .ne 5, 3) := by decide +kernel
theorem dX4_isPrime_15 : decode cX4_isPrime 15 = .ok (.iconst 0, 1) := by decide +kernel
theorem dX4_isPrime_16 : decode cX4_isPrime 16 = .ok (.ireturn, 1) := by decide +kernel
theorem dX4_isPrime_17 : decode cX4_isPrime 17 = .ok (.iinc 1 1, 3) := by decide +kernel
theorem dX4_isPrime_20 : decode cX4_isPrime 20 = .ok (.goto (-18), 3) := by decide +kernel
theorem dX4_isPrime_23 : decode cX4_isPrime 23 = .ok (.iload_n 0, 1) := by decide +kernel
theorem dX4_isPrime_24 : decode cX4_isPrime 24 = .ok (.iconst 1, 1) := by decide +kernel
theorem dX4_isPrime_25 : decode cX4_isPrime 25 = .ok (.if_icmp .le 7, 3) := by decide +kernel
theorem dX4_isPrime_28 : decode cX4_isPrime 28 = .ok (.iconst 1, 1) := by decide +kernel
theorem dX4_isPrime_29 : decode cX4_isPrime 29 = .ok (.goto 4, 3) := by decide +kernel
theorem dX4_isPrime_32 : decode cX4_isPrime 32 = .ok (.iconst 0, 1) := by decide +kernel
theorem dX4_isPrime_33 : decode cX4_isPrime 33 = .ok (.ireturn, 1) := by decide +kernel
theorem dX4_stepOfProof_0 : decode cX4_stepOfProof 0 = .ok (.aload_n 0, 1) := by decide +kernel
theorem dX4_stepOfProof_1 : decode cX4_stepOfProof 1 = .ok (.getfield 10, 3) := by decide +kernel
theorem dX4_stepOfProof_4 : decode cX4_stepOfProof 4 = .ok (.aload_n 1, 1) := by decide +kernel
theorem dX4_stepOfProof_5 : decode cX4_stepOfProof 5 = .ok (.getfield 111, 3) := by decide +kernel
theorem dX4_stepOfProof_8 : decode cX4_stepOfProof 8 = .ok (.aload_n 1, 1) := by decide +kernel
theorem dX4_stepOfProof_9 : decode cX4_stepOfProof 9 = .ok (.getfield 111, 3) := by decide +kernel
theorem dX4_stepOfProof_12 : decode cX4_stepOfProof 12 = .ok (.aload_n 1, 1) := by decide +kernel
theorem dX4_stepOfProof_13 : decode cX4_stepOfProof 13 = .ok (.getfield 111, 3) := by decide +kernel
theorem dX4_stepOfProof_16 : decode cX4_stepOfProof 16 = .ok (.invokevirtual 125, 3) := by decide +kernel
theorem dX4_stepOfProof_19 : decode cX4_stepOfProof 19 = .ok (.aload_n 1, 1) := by decide +kernel
theorem dX4_stepOfProof_20 : decode cX4_stepOfProof 20 = .ok (.iconst 2, 1) := by decide +kernel
theorem dX4_stepOfProof_21 : decode cX4_stepOfProof 21 = .ok (.aload_n 1, 1) := by decide +kernel
theorem dX4_stepOfProof_22 : decode cX4_stepOfProof 22 = .ok (.getfield 83, 3) := by decide +kernel
theorem dX4_stepOfProof_25 : decode cX4_stepOfProof 25 = .ok (.imul, 1) := by decide +kernel
theorem dX4_stepOfProof_26 : decode cX4_stepOfProof 26 = .ok (.putfield 83, 3) := by decide +kernel
theorem dX4_stepOfProof_29 : decode cX4_stepOfProof 29 = .ok (.aload_n 1, 1) := by decide +kernel
theorem dX4_stepOfProof_30 : decode cX4_stepOfProof 30 = .ok (.getfield 83, 3) := by decide +kernel
theorem dX4_stepOfProof_33 : decode cX4_stepOfProof 33 = .ok (.aload_n 1, 1) := by decide +kernel
theorem dX4_stepOfProof_34 : decode cX4_stepOfProof 34 = .ok (.getfield 80, 3) := by decide +kernel
theorem dX4_stepOfProof_37 : decode cX4_stepOfProof 37 = .ok (.if_icmp .lt 35, 3) := by decide +kernel
theorem dX4_stepOfProof_40 : decode cX4_stepOfProof 40 = .ok (.aload_n 0, 1) := by decide +kernel
theorem dX4_stepOfProof_41 : decode cX4_stepOfProof 41 = .ok (.getfield 10, 3) := by decide +kernel
theorem dX4_stepOfProof_44 : decode cX4_stepOfProof 44 = .ok (.aload_n 1, 1) := by decide +kernel
theorem dX4_stepOfProof_45 : decode cX4_stepOfProof 45 = .ok (.getfield 111, 3) := by decide +kernel
theorem dX4_stepOfProof_48 : decode cX4_stepOfProof 48 = .ok (.aload_n 1, 1) := by decide +kernel
theorem dX4_stepOfProof_49 : decode cX4_stepOfProof 49 = .ok (.getfield 97, 3) := by decide +kernel
theorem dX4_stepOfProof_52 : decode cX4_stepOfProof 52 = .ok (.aload_n 1, 1) := by decide +kernel
theorem dX4_stepOfProof_53 : decode cX4_stepOfProof 53 = .ok (.getfield 111, 3) := by decide +kernel
theorem dX4_stepOfProof_56 : decode cX4_stepOfProof 56 = .ok (.invokevirtual 125, 3) := by decide +kernel
theorem dX4_stepOfProof_59 : decode cX4_stepOfProof 59 = .ok (.aload_n 1, 1) := by decide +kernel
theorem dX4_stepOfProof_60 : decode cX4_stepOfProof 60 = .ok (.dup, 1) := by decide +kernel
theorem dX4_stepOfProof_61 : decode cX4_stepOfProof 61 = .ok (.getfield 83, 3) := by decide +kernel
theorem dX4_stepOfProof_64 : decode cX4_stepOfProof 64 = .ok (.aload_n 1, 1) := by decide +kernel
theorem dX4_stepOfProof_65 : decode cX4_stepOfProof 65 = .ok (.getfield 80, 3) := by decide +kernel
theorem dX4_stepOfProof_68 : decode cX4_stepOfProof 68 = .ok (.isub, 1) := by decide +kernel
theorem dX4_stepOfProof_69 : decode cX4_stepOfProof 69 = .ok (.putfield 83, 3) := by decide +kernel
theorem dX4_stepOfProof_72 : decode cX4_stepOfProof 72 = .ok (.return_, 1) := by decide +kernel
theorem dX4_quotient_0 : decode cX4_quotient 0 = .ok (.lload_n 2, 1) := by decide +kernel
theorem dX4_quotient_1 : decode cX4_quotient 1 = .ok (.lconst 0, 1) := by decide +kernel
theorem dX4_quotient_2 : decode cX4_quotient 2 = .ok (.lcmp, 1) := by decide +kernel
theorem dX4_quotient_3 : decode cX4_quotient 3 = .ok (.ifCond .ne 7, 3) := by decide +kernel
theorem dX4_quotient_6 : decode cX4_quotient 6 = .ok (.lconst 0, 1) := by decide +kernel
theorem dX4_quotient_7 : decode cX4_quotient 7 = .ok (.goto 6, 3) := by decide +kernel
theorem dX4_quotient_10 : decode cX4_quotient 10 = .ok (.lload_n 0, 1) := by decide +kernel
theorem dX4_quotient_11 : decode cX4_quotient 11 = .ok (.lload_n 2, 1) := by decide +kernel
theorem dX4_quotient_12 : decode cX4_quotient 12 = .ok (.ldiv, 1) := by decide +kernel
theorem dX4_quotient_13 : decode cX4_quotient 13 = .ok (.lreturn, 1) := by decide +kernel
theorem dX4_remainder_0 : decode cX4_remainder 0 = .ok (.lload_n 2, 1) := by decide +kernel
theorem dX4_remainder_1 : decode cX4_remainder 1 = .ok (.lconst 0, 1) := by decide +kernel
theorem dX4_remainder_2 : decode cX4_remainder 2 = .ok (.lcmp, 1) := by decide +kernel
theorem dX4_remainder_3 : decode cX4_remainder 3 = .ok (.ifCond .ne 7, 3) := by decide +kernel
theorem dX4_remainder_6 : decode cX4_remainder 6 = .ok (.lconst 0, 1) := by decide +kernel
theorem dX4_remainder_7 : decode cX4_remainder 7 = .ok (.goto 6, 3) := by decide +kernel
theorem dX4_remainder_10 : decode cX4_remainder 10 = .ok (.lload_n 0, 1) := by decide +kernel
theorem dX4_remainder_11 : decode cX4_remainder 11 = .ok (.lload_n 2, 1) := by decide +kernel
theorem dX4_remainder_12 : decode cX4_remainder 12 = .ok (.lrem, 1) := by decide +kernel
theorem dX4_remainder_13 : decode cX4_remainder 13 = .ok (.lstore 4, 2) := by decide +kernel
theorem dX4_remainder_15 : decode cX4_remainder 15 = .ok (.lload 4, 2) := by decide +kernel
theorem dX4_remainder_17 : decode cX4_remainder 17 = .ok (.lconst 0, 1) := by decide +kernel
theorem dX4_remainder_18 : decode cX4_remainder 18 = .ok (.lcmp, 1) := by decide +kernel
theorem dX4_remainder_19 : decode cX4_remainder 19 = .ok (.ifCond .ge 10, 3) := by decide +kernel
theorem dX4_remainder_22 : decode cX4_remainder 22 = .ok (.lload 4, 2) := by decide +kernel
theorem dX4_remainder_24 : decode cX4_remainder 24 = .ok (.lload_n 2, 1) := by decide +kernel
theorem dX4_remainder_25 : decode cX4_remainder 25 = .ok (.ladd, 1) := by decide +kernel
theorem dX4_remainder_26 : decode cX4_remainder 26 = .ok (.goto 5, 3) := by decide +kernel
theorem dX4_remainder_29 : decode cX4_remainder 29 = .ok (.lload 4, 2) := by decide +kernel
theorem dX4_remainder_31 : decode cX4_remainder 31 = .ok (.lreturn, 1) := by decide +kernel
theorem dX5_init_0 : decode cX5_init 0 = .ok (.aload_n 0, 1) := by decide +kernel
theorem dX5_init_1 : decode cX5_init 1 = .ok (.invokespecial 1, 3) := by decide +kernel
theorem dX5_init_4 : decode cX5_init 4 = .ok (.aload_n 0, 1) := by decide +kernel
theorem dX5_init_5 : decode cX5_init 5 = .ok (.bipush 64, 2) := by decide +kernel
theorem dX5_init_7 : decode cX5_init 7 = .ok (.newarray .long, 2) := by decide +kernel
theorem dX5_init_9 : decode cX5_init 9 = .ok (.putfield 7, 3) := by decide +kernel
theorem dX5_init_12 : decode cX5_init 12 = .ok (.aload_n 0, 1) := by decide +kernel
theorem dX5_init_13 : decode cX5_init 13 = .ok (.bipush 64, 2) := by decide +kernel
theorem dX5_init_15 : decode cX5_init 15 = .ok (.newarray .long, 2) := by decide +kernel
theorem dX5_init_17 : decode cX5_init 17 = .ok (.putfield 13, 3) := by decide +kernel
theorem dX5_init_20 : decode cX5_init 20 = .ok (.aload_n 0, 1) := by decide +kernel
theorem dX5_init_21 : decode cX5_init 21 = .ok (.bipush 64, 2) := by decide +kernel
theorem dX5_init_23 : decode cX5_init 23 = .ok (.newarray .long, 2) := by decide +kernel
theorem dX5_init_25 : decode cX5_init 25 = .ok (.putfield 16, 3) := by decide +kernel
theorem dX5_init_28 : decode cX5_init 28 = .ok (.aload_n 0, 1) := by decide +kernel
theorem dX5_init_29 : decode cX5_init 29 = .ok (.iconst 3, 1) := by decide +kernel
theorem dX5_init_30 : decode cX5_init 30 = .ok (.newarray .boolean, 2) := by decide +kernel
theorem dX5_init_32 : decode cX5_init 32 = .ok (.putfield 19, 3) := by decide +kernel
theorem dX5_init_35 : decode cX5_init 35 = .ok (.aload_n 0, 1) := by decide +kernel
theorem dX5_init_36 : decode cX5_init 36 = .ok (.bipush 51, 2) := by decide +kernel
theorem dX5_init_38 : decode cX5_init 38 = .ok (.newarray .int, 2) := by decide +kernel
theorem dX5_init_40 : decode cX5_init 40 = .ok (.putfield 23, 3) := by decide +kernel
theorem dX5_init_43 : decode cX5_init 43 = .ok (.return_, 1) := by decide +kernel
theorem dX5_thrown_0 : decode cX5_thrown 0 = .ok (.aload_n 0, 1) := by decide +kernel
theorem dX5_thrown_1 : decode cX5_thrown 1 = .ok (.getfield 27, 3) := by decide +kernel
theorem dX5_thrown_4 : decode cX5_thrown 4 = .ok (.ireturn, 1) := by decide +kernel
theorem dX5_divisor_0 : decode cX5_divisor 0 = .ok (.lload_n 0, 1) := by decide +kernel
theorem dX5_divisor_1 : decode cX5_divisor 1 = .ok (.lconst 0, 1) := by decide +kernel
theorem dX5_divisor_2 : decode cX5_divisor 2 = .ok (.lcmp, 1) := by decide +kernel
theorem dX5_divisor_3 : decode cX5_divisor 3 = .ok (.ifCond .ge 8, 3) := by decide +kernel
theorem dX5_divisor_6 : decode cX5_divisor 6 = .ok (.lload_n 0, 1) := by decide +kernel
theorem dX5_divisor_7 : decode cX5_divisor 7 = .ok (.lneg, 1) := by decide +kernel
theorem dX5_divisor_8 : decode cX5_divisor 8 = .ok (.goto 4, 3) := by decide +kernel
theorem dX5_divisor_11 : decode cX5_divisor 11 = .ok (.lload_n 0, 1) := by decide +kernel
theorem dX5_divisor_12 : decode cX5_divisor 12 = .ok (.lstore 4, 2) := by decide +kernel
theorem dX5_divisor_14 : decode cX5_divisor 14 = .ok (.lload_n 2, 1) := by decide +kernel
theorem dX5_divisor_15 : decode cX5_divisor 15 = .ok (.lconst 0, 1) := by decide +kernel
theorem dX5_divisor_16 : decode cX5_divisor 16 = .ok (.lcmp, 1) := by decide +kernel
theorem dX5_divisor_17 : decode cX5_divisor 17 = .ok (.ifCond .ge 8, 3) := by decide +kernel
theorem dX5_divisor_20 : decode cX5_divisor 20 = .ok (.lload_n 2, 1) := by decide +kernel
theorem dX5_divisor_21 : decode cX5_divisor 21 = .ok (.lneg, 1) := by decide +kernel
theorem dX5_divisor_22 : decode cX5_divisor 22 = .ok (.goto 4, 3) := by decide +kernel
theorem dX5_divisor_25 : decode cX5_divisor 25 = .ok (.lload_n 2, 1) := by decide +kernel
theorem dX5_divisor_26 : decode cX5_divisor 26 = .ok (.lstore 6, 2) := by decide +kernel
theorem dX5_divisor_28 : decode cX5_divisor 28 = .ok (.lload 6, 2) := by decide +kernel
theorem dX5_divisor_30 : decode cX5_divisor 30 = .ok (.lconst 0, 1) := by decide +kernel
theorem dX5_divisor_31 : decode cX5_divisor 31 = .ok (.lcmp, 1) := by decide +kernel
theorem dX5_divisor_32 : decode cX5_divisor 32 = .ok (.ifCond .eq 21, 3) := by decide +kernel
theorem dX5_divisor_35 : decode cX5_divisor 35 = .ok (.lload 4, 2) := by decide +kernel
theorem dX5_divisor_37 : decode cX5_divisor 37 = .ok (.lload 6, 2) := by decide +kernel
theorem dX5_divisor_39 : decode cX5_divisor 39 = .ok (.lrem, 1) := by decide +kernel
theorem dX5_divisor_40 : decode cX5_divisor 40 = .ok (.lstore 8, 2) := by decide +kernel
theorem dX5_divisor_42 : decode cX5_divisor 42 = .ok (.lload 6, 2) := by decide +kernel
theorem dX5_divisor_44 : decode cX5_divisor 44 = .ok (.lstore 4, 2) := by decide +kernel
theorem dX5_divisor_46 : decode cX5_divisor 46 = .ok (.lload 8, 2) := by decide +kernel
theorem dX5_divisor_48 : decode cX5_divisor 48 = .ok (.lstore 6, 2) := by decide +kernel
theorem dX5_divisor_50 : decode cX5_divisor 50 = .ok (.goto (-22), 3) := by decide +kernel
theorem dX5_divisor_53 : decode cX5_divisor 53 = .ok (.lload 4, 2) := by decide +kernel
theorem dX5_divisor_55 : decode cX5_divisor 55 = .ok (.lreturn, 1) := by decide +kernel
theorem dX5_down_0 : decode cX5_down 0 = .ok (.lload_n 0, 1) := by decide +kernel
theorem dX5_down_1 : decode cX5_down 1 = .ok (.lload_n 2, 1) := by decide +kernel
theorem dX5_down_2 : decode cX5_down 2 = .ok (.ldiv, 1) := by decide +kernel
theorem dX5_down_3 : decode cX5_down 3 = .ok (.lstore 4, 2) := by decide +kernel
theorem dX5_down_5 : decode cX5_down 5 = .ok (.lload_n 0, 1) := by decide +kernel
theorem dX5_down_6 : decode cX5_down 6 = .ok (.lload_n 2, 1) := by decide +kernel
theorem dX5_down_7 : decode cX5_down 7 = .ok (.lrem, 1) := by decide +kernel
theorem dX5_down_8 : decode cX5_down 8 = .ok (.lconst 0, 1) := by decide +kernel
theorem dX5_down_9 : decode cX5_down 9 = .ok (.lcmp, 1) := by decide +kernel
theorem dX5_down_10 : decode cX5_down 10 = .ok (.ifCond .ge 10, 3) := by decide +kernel
theorem dX5_down_13 : decode cX5_down 13 = .ok (.lload 4, 2) := by decide +kernel
theorem dX5_down_15 : decode cX5_down 15 = .ok (.lconst 1, 1) := by decide +kernel
theorem dX5_down_16 : decode cX5_down 16 = .ok (.lsub, 1) := by decide +kernel
theorem dX5_down_17 : decode cX5_down 17 = .ok (.goto 5, 3) := by decide +kernel
theorem dX5_down_20 : decode cX5_down 20 = .ok (.lload 4, 2) := by decide +kernel
theorem dX5_down_22 : decode cX5_down 22 = .ok (.lreturn, 1) := by decide +kernel
theorem dX5_modulo_0 : decode cX5_modulo 0 = .ok (.lload_n 0, 1) := by decide +kernel
theorem dX5_modulo_1 : decode cX5_modulo 1 = .ok (.lload_n 2, 1) := by decide +kernel
theorem dX5_modulo_2 : decode cX5_modulo 2 = .ok (.lrem, 1) := by decide +kernel
theorem dX5_modulo_3 : decode cX5_modulo 3 = .ok (.lstore 4, 2) := by decide +kernel
theorem dX5_modulo_5 : decode cX5_modulo 5 = .ok (.lload 4, 2) := by decide +kernel
theorem dX5_modulo_7 : decode cX5_modulo 7 = .ok (.lconst 0, 1) := by decide +kernel
theorem dX5_modulo_8 : decode cX5_modulo 8 = .ok (.lcmp, 1) := by decide +kernel
theorem dX5_modulo_9 : decode cX5_modulo 9 = .ok (.ifCond .ge 10, 3) := by decide +kernel
theorem dX5_modulo_12 : decode cX5_modulo 12 = .ok (.lload 4, 2) := by decide +kernel
theorem dX5_modulo_14 : decode cX5_modulo 14 = .ok (.lload_n 2, 1) := by decide +kernel
theorem dX5_modulo_15 : decode cX5_modulo 15 = .ok (.ladd, 1) := by decide +kernel
theorem dX5_modulo_16 : decode cX5_modulo 16 = .ok (.goto 5, 3) := by decide +kernel
theorem dX5_modulo_19 : decode cX5_modulo 19 = .ok (.lload 4, 2) := by decide +kernel
theorem dX5_modulo_21 : decode cX5_modulo 21 = .ok (.lreturn, 1) := by decide +kernel
theorem dX5_inverse_0 : decode cX5_inverse 0 = .ok (.lload_n 2, 1) := by decide +kernel
theorem dX5_inverse_1 : decode cX5_inverse 1 = .ok (.lstore 4, 2) := by decide +kernel
theorem dX5_inverse_3 : decode cX5_inverse 3 = .ok (.lload_n 0, 1) := by decide +kernel
theorem dX5_inverse_4 : decode cX5_inverse 4 = .ok (.lload_n 2, 1) := by decide +kernel
theorem dX5_inverse_5 : decode cX5_inverse 5 = .ok (.invokestatic 31, 3) := by decide +kernel
theorem dX5_inverse_8 : decode cX5_inverse 8 = .ok (.lstore 6, 2) := by decide +kernel
theorem dX5_inverse_10 : decode cX5_inverse 10 = .ok (.lconst 0, 1) := by decide +kernel
theorem dX5_inverse_11 : decode cX5_inverse 11 = .ok (.lstore 8, 2) := by decide +kernel
theorem dX5_inverse_13 : decode cX5_inverse 13 = .ok (.lconst 1, 1) := by decide +kernel
theorem dX5_inverse_14 : decode cX5_inverse 14 = .ok (.lstore 10, 2) := by decide +kernel
theorem dX5_inverse_16 : decode cX5_inverse 16 = .ok (.lload 6, 2) := by decide +kernel
theorem dX5_inverse_18 : decode cX5_inverse 18 = .ok (.lconst 0, 1) := by decide +kernel
theorem dX5_inverse_19 : decode cX5_inverse 19 = .ok (.lcmp, 1) := by decide +kernel
theorem dX5_inverse_20 : decode cX5_inverse 20 = .ok (.ifCond .eq 49, 3) := by decide +kernel
theorem dX5_inverse_23 : decode cX5_inverse 23 = .ok (.lload 4, 2) := by decide +kernel
theorem dX5_inverse_25 : decode cX5_inverse 25 = .ok (.lload 6, 2) := by decide +kernel
theorem dX5_inverse_27 : decode cX5_inverse 27 = .ok (.ldiv, 1) := by decide +kernel
theorem dX5_inverse_28 : decode cX5_inverse 28 = .ok (.lstore 12, 2) := by decide +kernel
theorem dX5_inverse_30 : decode cX5_inverse 30 = .ok (.lload 4, 2) := by decide +kernel
theorem dX5_inverse_32 : decode cX5_inverse 32 = .ok (.lload 12, 2) := by decide +kernel
theorem dX5_inverse_34 : decode cX5_inverse 34 = .ok (.lload 6, 2) := by decide +kernel
theorem dX5_inverse_36 : decode cX5_inverse 36 = .ok (.lmul, 1) := by decide +kernel
theorem dX5_inverse_37 : decode cX5_inverse 37 = .ok (.lsub, 1) := by decide +kernel
theorem dX5_inverse_38 : decode cX5_inverse 38 = .ok (.lstore 14, 2) := by decide +kernel
theorem dX5_inverse_40 : decode cX5_inverse 40 = .ok (.lload 6, 2) := by decide +kernel
theorem dX5_inverse_42 : decode cX5_inverse 42 = .ok (.lstore 4, 2) := by decide +kernel
theorem dX5_inverse_44 : decode cX5_inverse 44 = .ok (.lload 14, 2) := by decide +kernel
theorem dX5_inverse_46 : decode cX5_inverse 46 = .ok (.lstore 6, 2) := by decide +kernel
theorem dX5_inverse_48 : decode cX5_inverse 48 = .ok (.lload 8, 2) := by decide +kernel
theorem dX5_inverse_50 : decode cX5_inverse 50 = .ok (.lload 12, 2) := by decide +kernel
theorem dX5_inverse_52 : decode cX5_inverse 52 = .ok (.lload 10, 2) := by decide +kernel
theorem dX5_inverse_54 : decode cX5_inverse 54 = .ok (.lmul, 1) := by decide +kernel
theorem dX5_inverse_55 : decode cX5_inverse 55 = .ok (.lsub, 1) := by decide +kernel
theorem dX5_inverse_56 : decode cX5_inverse 56 = .ok (.lstore 14, 2) := by decide +kernel
theorem dX5_inverse_58 : decode cX5_inverse 58 = .ok (.lload 10, 2) := by decide +kernel
theorem dX5_inverse_60 : decode cX5_inverse 60 = .ok (.lstore 8, 2) := by decide +kernel
theorem dX5_inverse_62 : decode cX5_inverse 62 = .ok (.lload 14, 2) := by decide +kernel
theorem dX5_inverse_64 : decode cX5_inverse 64 = .ok (.lstore 10, 2) := by decide +kernel
end
section
theorem dX5_inverse_66 : decode cX5_inverse 66 = .ok (.goto (-50), 3) := by decide +kernel
theorem dX5_inverse_69 : decode cX5_inverse 69 = .ok (.lload 8, 2) := by decide +kernel
theorem dX5_inverse_71 : decode cX5_inverse 71 = .ok (.lload_n 2, 1) := by decide +kernel
theorem dX5_inverse_72 : decode cX5_inverse 72 = .ok (.invokestatic 31, 3) := by decide +kernel
theorem dX5_inverse_75 : decode cX5_inverse 75 = .ok (.lreturn, 1) := by decide +kernel
theorem dX5_set_0 : decode cX5_set 0 = .ok (.aload_n 0, 1) := by decide +kernel
theorem dX5_set_1 : decode cX5_set 1 = .ok (.getfield 7, 3) := by decide +kernel
theorem dX5_set_4 : decode cX5_set 4 = .ok (.iload_n 1, 1) := by decide +kernel
theorem dX5_set_5 : decode cX5_set 5 = .ok (.lload_n 2, 1) := by decide +kernel
theorem dX5_set_6 : decode cX5_set 6 = .ok (.lastore, 1) := by decide +kernel
theorem dX5_set_7 : decode cX5_set 7 = .ok (.aload_n 0, 1) := by decide +kernel
theorem dX5_set_8 : decode cX5_set 8 = .ok (.getfield 13, 3) := by decide +kernel
theorem dX5_set_11 : decode cX5_set 11 = .ok (.iload_n 1, 1) := by decide +kernel
theorem dX5_set_12 : decode cX5_set 12 = .ok (.lload 4, 2) := by decide +kernel
theorem dX5_set_14 : decode cX5_set 14 = .ok (.lastore, 1) := by decide +kernel
theorem dX5_set_15 : decode cX5_set 15 = .ok (.aload_n 0, 1) := by decide +kernel
theorem dX5_set_16 : decode cX5_set 16 = .ok (.getfield 16, 3) := by decide +kernel
theorem dX5_set_19 : decode cX5_set 19 = .ok (.iload_n 1, 1) := by decide +kernel
theorem dX5_set_20 : decode cX5_set 20 = .ok (.lload 6, 2) := by decide +kernel
theorem dX5_set_22 : decode cX5_set 22 = .ok (.lastore, 1) := by decide +kernel
theorem dX5_set_23 : decode cX5_set 23 = .ok (.return_, 1) := by decide +kernel
theorem dX5_copy_0 : decode cX5_copy 0 = .ok (.aload_n 0, 1) := by decide +kernel
theorem dX5_copy_1 : decode cX5_copy 1 = .ok (.iload_n 2, 1) := by decide +kernel
theorem dX5_copy_2 : decode cX5_copy 2 = .ok (.aload_n 0, 1) := by decide +kernel
theorem dX5_copy_3 : decode cX5_copy 3 = .ok (.getfield 7, 3) := by decide +kernel
theorem dX5_copy_6 : decode cX5_copy 6 = .ok (.iload_n 1, 1) := by decide +kernel
theorem dX5_copy_7 : decode cX5_copy 7 = .ok (.laload, 1) := by decide +kernel
theorem dX5_copy_8 : decode cX5_copy 8 = .ok (.aload_n 0, 1) := by decide +kernel
theorem dX5_copy_9 : decode cX5_copy 9 = .ok (.getfield 13, 3) := by decide +kernel
theorem dX5_copy_12 : decode cX5_copy 12 = .ok (.iload_n 1, 1) := by decide +kernel
theorem dX5_copy_13 : decode cX5_copy 13 = .ok (.laload, 1) := by decide +kernel
theorem dX5_copy_14 : decode cX5_copy 14 = .ok (.aload_n 0, 1) := by decide +kernel
theorem dX5_copy_15 : decode cX5_copy 15 = .ok (.getfield 16, 3) := by decide +kernel
theorem dX5_copy_18 : decode cX5_copy 18 = .ok (.iload_n 1, 1) := by decide +kernel
theorem dX5_copy_19 : decode cX5_copy 19 = .ok (.laload, 1) := by decide +kernel
theorem dX5_copy_20 : decode cX5_copy 20 = .ok (.invokevirtual 35, 3) := by decide +kernel
theorem dX5_copy_23 : decode cX5_copy 23 = .ok (.return_, 1) := by decide +kernel
theorem dX5_same_0 : decode cX5_same 0 = .ok (.aload_n 0, 1) := by decide +kernel
theorem dX5_same_1 : decode cX5_same 1 = .ok (.getfield 7, 3) := by decide +kernel
theorem dX5_same_4 : decode cX5_same 4 = .ok (.iload_n 1, 1) := by decide +kernel
theorem dX5_same_5 : decode cX5_same 5 = .ok (.laload, 1) := by decide +kernel
theorem dX5_same_6 : decode cX5_same 6 = .ok (.aload_n 0, 1) := by decide +kernel
theorem dX5_same_7 : decode cX5_same 7 = .ok (.getfield 7, 3) := by decide +kernel
theorem dX5_same_10 : decode cX5_same 10 = .ok (.iload_n 2, 1) := by decide +kernel
theorem dX5_same_11 : decode cX5_same 11 = .ok (.laload, 1) := by decide +kernel
theorem dX5_same_12 : decode cX5_same 12 = .ok (.lcmp, 1) := by decide +kernel
theorem dX5_same_13 : decode cX5_same 13 = .ok (.ifCond .ne 39, 3) := by decide +kernel
theorem dX5_same_16 : decode cX5_same 16 = .ok (.aload_n 0, 1) := by decide +kernel
theorem dX5_same_17 : decode cX5_same 17 = .ok (.getfield 13, 3) := by decide +kernel
theorem dX5_same_20 : decode cX5_same 20 = .ok (.iload_n 1, 1) := by decide +kernel
theorem dX5_same_21 : decode cX5_same 21 = .ok (.laload, 1) := by decide +kernel
theorem dX5_same_22 : decode cX5_same 22 = .ok (.aload_n 0, 1) := by decide +kernel
theorem dX5_same_23 : decode cX5_same 23 = .ok (.getfield 13, 3) := by decide +kernel
theorem dX5_same_26 : decode cX5_same 26 = .ok (.iload_n 2, 1) := by decide +kernel
theorem dX5_same_27 : decode cX5_same 27 = .ok (.laload, 1) := by decide +kernel
theorem dX5_same_28 : decode cX5_same 28 = .ok (.lcmp, 1) := by decide +kernel
theorem dX5_same_29 : decode cX5_same 29 = .ok (.ifCond .ne 23, 3) := by decide +kernel
theorem dX5_same_32 : decode cX5_same 32 = .ok (.aload_n 0, 1) := by decide +kernel
theorem dX5_same_33 : decode cX5_same 33 = .ok (.getfield 16, 3) := by decide +kernel
theorem dX5_same_36 : decode cX5_same 36 = .ok (.iload_n 1, 1) := by decide +kernel
theorem dX5_same_37 : decode cX5_same 37 = .ok (.laload, 1) := by decide +kernel
theorem dX5_same_38 : decode cX5_same 38 = .ok (.aload_n 0, 1) := by decide +kernel
theorem dX5_same_39 : decode cX5_same 39 = .ok (.getfield 16, 3) := by decide +kernel
theorem dX5_same_42 : decode cX5_same 42 = .ok (.iload_n 2, 1) := by decide +kernel
theorem dX5_same_43 : decode cX5_same 43 = .ok (.laload, 1) := by decide +kernel
theorem dX5_same_44 : decode cX5_same 44 = .ok (.lcmp, 1) := by decide +kernel
theorem dX5_same_45 : decode cX5_same 45 = .ok (.ifCond .ne 7, 3) := by decide +kernel
theorem dX5_same_48 : decode cX5_same 48 = .ok (.iconst 1, 1) := by decide +kernel
theorem dX5_same_49 : decode cX5_same 49 = .ok (.goto 4, 3) := by decide +kernel
theorem dX5_same_52 : decode cX5_same 52 = .ok (.iconst 0, 1) := by decide +kernel
theorem dX5_same_53 : decode cX5_same 53 = .ok (.ireturn, 1) := by decide +kernel
theorem dX5_isReduced_0 : decode cX5_isReduced 0 = .ok (.aload_n 0, 1) := by decide +kernel
theorem dX5_isReduced_1 : decode cX5_isReduced 1 = .ok (.getfield 13, 3) := by decide +kernel
theorem dX5_isReduced_4 : decode cX5_isReduced 4 = .ok (.iload_n 1, 1) := by decide +kernel
theorem dX5_isReduced_5 : decode cX5_isReduced 5 = .ok (.laload, 1) := by decide +kernel
theorem dX5_isReduced_6 : decode cX5_isReduced 6 = .ok (.aload_n 0, 1) := by decide +kernel
theorem dX5_isReduced_7 : decode cX5_isReduced 7 = .ok (.getfield 7, 3) := by decide +kernel
theorem dX5_isReduced_10 : decode cX5_isReduced 10 = .ok (.iload_n 1, 1) := by decide +kernel
theorem dX5_isReduced_11 : decode cX5_isReduced 11 = .ok (.laload, 1) := by decide +kernel
theorem dX5_isReduced_12 : decode cX5_isReduced 12 = .ok (.lneg, 1) := by decide +kernel
theorem dX5_isReduced_13 : decode cX5_isReduced 13 = .ok (.lcmp, 1) := by decide +kernel
theorem dX5_isReduced_14 : decode cX5_isReduced 14 = .ok (.ifCond .le 66, 3) := by decide +kernel
theorem dX5_isReduced_17 : decode cX5_isReduced 17 = .ok (.aload_n 0, 1) := by decide +kernel
theorem dX5_isReduced_18 : decode cX5_isReduced 18 = .ok (.getfield 13, 3) := by decide +kernel
theorem dX5_isReduced_21 : decode cX5_isReduced 21 = .ok (.iload_n 1, 1) := by decide +kernel
theorem dX5_isReduced_22 : decode cX5_isReduced 22 = .ok (.laload, 1) := by decide +kernel
theorem dX5_isReduced_23 : decode cX5_isReduced 23 = .ok (.aload_n 0, 1) := by decide +kernel
theorem dX5_isReduced_24 : decode cX5_isReduced 24 = .ok (.getfield 7, 3) := by decide +kernel
theorem dX5_isReduced_27 : decode cX5_isReduced 27 = .ok (.iload_n 1, 1) := by decide +kernel
theorem dX5_isReduced_28 : decode cX5_isReduced 28 = .ok (.laload, 1) := by decide +kernel
theorem dX5_isReduced_29 : decode cX5_isReduced 29 = .ok (.lcmp, 1) := by decide +kernel
theorem dX5_isReduced_30 : decode cX5_isReduced 30 = .ok (.ifCond .gt 50, 3) := by decide +kernel
theorem dX5_isReduced_33 : decode cX5_isReduced 33 = .ok (.aload_n 0, 1) := by decide +kernel
theorem dX5_isReduced_34 : decode cX5_isReduced 34 = .ok (.getfield 7, 3) := by decide +kernel
theorem dX5_isReduced_37 : decode cX5_isReduced 37 = .ok (.iload_n 1, 1) := by decide +kernel
theorem dX5_isReduced_38 : decode cX5_isReduced 38 = .ok (.laload, 1) := by decide +kernel
theorem dX5_isReduced_39 : decode cX5_isReduced 39 = .ok (.aload_n 0, 1) := by decide +kernel
theorem dX5_isReduced_40 : decode cX5_isReduced 40 = .ok (.getfield 16, 3) := by decide +kernel
theorem dX5_isReduced_43 : decode cX5_isReduced 43 = .ok (.iload_n 1, 1) := by decide +kernel
theorem dX5_isReduced_44 : decode cX5_isReduced 44 = .ok (.laload, 1) := by decide +kernel
theorem dX5_isReduced_45 : decode cX5_isReduced 45 = .ok (.lcmp, 1) := by decide +kernel
theorem dX5_isReduced_46 : decode cX5_isReduced 46 = .ok (.ifCond .gt 34, 3) := by decide +kernel
theorem dX5_isReduced_49 : decode cX5_isReduced 49 = .ok (.aload_n 0, 1) := by decide +kernel
theorem dX5_isReduced_50 : decode cX5_isReduced 50 = .ok (.getfield 7, 3) := by decide +kernel
theorem dX5_isReduced_53 : decode cX5_isReduced 53 = .ok (.iload_n 1, 1) := by decide +kernel
theorem dX5_isReduced_54 : decode cX5_isReduced 54 = .ok (.laload, 1) := by decide +kernel
theorem dX5_isReduced_55 : decode cX5_isReduced 55 = .ok (.aload_n 0, 1) := by decide +kernel
theorem dX5_isReduced_56 : decode cX5_isReduced 56 = .ok (.getfield 16, 3) := by decide +kernel
theorem dX5_isReduced_59 : decode cX5_isReduced 59 = .ok (.iload_n 1, 1) := by decide +kernel
theorem dX5_isReduced_60 : decode cX5_isReduced 60 = .ok (.laload, 1) := by decide +kernel
theorem dX5_isReduced_61 : decode cX5_isReduced 61 = .ok (.lcmp, 1) := by decide +kernel
theorem dX5_isReduced_62 : decode cX5_isReduced 62 = .ok (.ifCond .ne 14, 3) := by decide +kernel
theorem dX5_isReduced_65 : decode cX5_isReduced 65 = .ok (.aload_n 0, 1) := by decide +kernel
theorem dX5_isReduced_66 : decode cX5_isReduced 66 = .ok (.getfield 13, 3) := by decide +kernel
theorem dX5_isReduced_69 : decode cX5_isReduced 69 = .ok (.iload_n 1, 1) := by decide +kernel
theorem dX5_isReduced_70 : decode cX5_isReduced 70 = .ok (.laload, 1) := by decide +kernel
theorem dX5_isReduced_71 : decode cX5_isReduced 71 = .ok (.lconst 0, 1) := by decide +kernel
theorem dX5_isReduced_72 : decode cX5_isReduced 72 = .ok (.lcmp, 1) := by decide +kernel
theorem dX5_isReduced_73 : decode cX5_isReduced 73 = .ok (.ifCond .lt 7, 3) := by decide +kernel
theorem dX5_isReduced_76 : decode cX5_isReduced 76 = .ok (.iconst 1, 1) := by decide +kernel
theorem dX5_isReduced_77 : decode cX5_isReduced 77 = .ok (.goto 4, 3) := by decide +kernel
theorem dX5_isReduced_80 : decode cX5_isReduced 80 = .ok (.iconst 0, 1) := by decide +kernel
theorem dX5_isReduced_81 : decode cX5_isReduced 81 = .ok (.ireturn, 1) := by decide +kernel
theorem dX5_settle_0 : decode cX5_settle 0 = .ok (.aload_n 0, 1) := by decide +kernel
theorem dX5_settle_1 : decode cX5_settle 1 = .ok (.iload_n 1, 1) := by decide +kernel
theorem dX5_settle_2 : decode cX5_settle 2 = .ok (.invokevirtual 39, 3) := by decide +kernel
theorem dX5_settle_5 : decode cX5_settle 5 = .ok (.ifCond .ne 149, 3) := by decide +kernel
theorem dX5_settle_8 : decode cX5_settle 8 = .ok (.aload_n 0, 1) := by decide +kernel
theorem dX5_settle_9 : decode cX5_settle 9 = .ok (.getfield 13, 3) := by decide +kernel
theorem dX5_settle_12 : decode cX5_settle 12 = .ok (.iload_n 1, 1) := by decide +kernel
theorem dX5_settle_13 : decode cX5_settle 13 = .ok (.laload, 1) := by decide +kernel
theorem dX5_settle_14 : decode cX5_settle 14 = .ok (.aload_n 0, 1) := by decide +kernel
theorem dX5_settle_15 : decode cX5_settle 15 = .ok (.getfield 7, 3) := by decide +kernel
theorem dX5_settle_18 : decode cX5_settle 18 = .ok (.iload_n 1, 1) := by decide +kernel
theorem dX5_settle_19 : decode cX5_settle 19 = .ok (.laload, 1) := by decide +kernel
theorem dX5_settle_20 : decode cX5_settle 20 = .ok (.lneg, 1) := by decide +kernel
theorem dX5_settle_21 : decode cX5_settle 21 = .ok (.lcmp, 1) := by decide +kernel
theorem dX5_settle_22 : decode cX5_settle 22 = .ok (.ifCond .le 19, 3) := by decide +kernel
theorem dX5_settle_25 : decode cX5_settle 25 = .ok (.aload_n 0, 1) := by decide +kernel
theorem dX5_settle_26 : decode cX5_settle 26 = .ok (.getfield 13, 3) := by decide +kernel
theorem dX5_settle_29 : decode cX5_settle 29 = .ok (.iload_n 1, 1) := by decide +kernel
theorem dX5_settle_30 : decode cX5_settle 30 = .ok (.laload, 1) := by decide +kernel
theorem dX5_settle_31 : decode cX5_settle 31 = .ok (.aload_n 0, 1) := by decide +kernel
theorem dX5_settle_32 : decode cX5_settle 32 = .ok (.getfield 7, 3) := by decide +kernel
theorem dX5_settle_35 : decode cX5_settle 35 = .ok (.iload_n 1, 1) := by decide +kernel
theorem dX5_settle_36 : decode cX5_settle 36 = .ok (.laload, 1) := by decide +kernel
theorem dX5_settle_37 : decode cX5_settle 37 = .ok (.lcmp, 1) := by decide +kernel
theorem dX5_settle_38 : decode cX5_settle 38 = .ok (.ifCond .le 89, 3) := by decide +kernel
theorem dX5_settle_41 : decode cX5_settle 41 = .ok (.aload_n 0, 1) := by decide +kernel
theorem dX5_settle_42 : decode cX5_settle 42 = .ok (.getfield 7, 3) := by decide +kernel
theorem dX5_settle_45 : decode cX5_settle 45 = .ok (.iload_n 1, 1) := by decide +kernel
theorem dX5_settle_46 : decode cX5_settle 46 = .ok (.laload, 1) := by decide +kernel
theorem dX5_settle_47 : decode cX5_settle 47 = .ok (.aload_n 0, 1) := by decide +kernel
theorem dX5_settle_48 : decode cX5_settle 48 = .ok (.getfield 13, 3) := by decide +kernel
theorem dX5_settle_51 : decode cX5_settle 51 = .ok (.iload_n 1, 1) := by decide +kernel
theorem dX5_settle_52 : decode cX5_settle 52 = .ok (.laload, 1) := by decide +kernel
theorem dX5_settle_53 : decode cX5_settle 53 = .ok (.lsub, 1) := by decide +kernel
theorem dX5_settle_54 : decode cX5_settle 54 = .ok (.ldc2_w 43, 3) := by decide +kernel
theorem dX5_settle_57 : decode cX5_settle 57 = .ok (.aload_n 0, 1) := by decide +kernel
theorem dX5_settle_58 : decode cX5_settle 58 = .ok (.getfield 7, 3) := by decide +kernel
theorem dX5_settle_61 : decode cX5_settle 61 = .ok (.iload_n 1, 1) := by decide +kernel
theorem dX5_settle_62 : decode cX5_settle 62 = .ok (.laload, 1) := by decide +kernel
theorem dX5_settle_63 : decode cX5_settle 63 = .ok (.lmul, 1) := by decide +kernel
theorem dX5_settle_64 : decode cX5_settle 64 = .ok (.invokestatic 45, 3) := by decide +kernel
theorem dX5_settle_67 : decode cX5_settle 67 = .ok (.lstore_n 2, 1) := by decide +kernel
theorem dX5_settle_68 : decode cX5_settle 68 = .ok (.aload_n 0, 1) := by decide +kernel
theorem dX5_settle_69 : decode cX5_settle 69 = .ok (.getfield 13, 3) := by decide +kernel
theorem dX5_settle_72 : decode cX5_settle 72 = .ok (.iload_n 1, 1) := by decide +kernel
theorem dX5_settle_73 : decode cX5_settle 73 = .ok (.laload, 1) := by decide +kernel
theorem dX5_settle_74 : decode cX5_settle 74 = .ok (.ldc2_w 43, 3) := by decide +kernel
theorem dX5_settle_77 : decode cX5_settle 77 = .ok (.lload_n 2, 1) := by decide +kernel
theorem dX5_settle_78 : decode cX5_settle 78 = .ok (.lmul, 1) := by decide +kernel
theorem dX5_settle_79 : decode cX5_settle 79 = .ok (.aload_n 0, 1) := by decide +kernel
theorem dX5_settle_80 : decode cX5_settle 80 = .ok (.getfield 7, 3) := by decide +kernel
theorem dX5_settle_83 : decode cX5_settle 83 = .ok (.iload_n 1, 1) := by decide +kernel
theorem dX5_settle_84 : decode cX5_settle 84 = .ok (.laload, 1) := by decide +kernel
theorem dX5_settle_85 : decode cX5_settle 85 = .ok (.lmul, 1) := by decide +kernel
theorem dX5_settle_86 : decode cX5_settle 86 = .ok (.ladd, 1) := by decide +kernel
theorem dX5_settle_87 : decode cX5_settle 87 = .ok (.lstore 4, 2) := by decide +kernel
theorem dX5_settle_89 : decode cX5_settle 89 = .ok (.aload_n 0, 1) := by decide +kernel
theorem dX5_settle_90 : decode cX5_settle 90 = .ok (.iload_n 1, 1) := by decide +kernel
theorem dX5_settle_91 : decode cX5_settle 91 = .ok (.aload_n 0, 1) := by decide +kernel
theorem dX5_settle_92 : decode cX5_settle 92 = .ok (.getfield 7, 3) := by decide +kernel
theorem dX5_settle_95 : decode cX5_settle 95 = .ok (.iload_n 1, 1) := by decide +kernel
theorem dX5_settle_96 : decode cX5_settle 96 = .ok (.laload, 1) := by decide +kernel
theorem dX5_settle_97 : decode cX5_settle 97 = .ok (.lload 4, 2) := by decide +kernel
theorem dX5_settle_99 : decode cX5_settle 99 = .ok (.aload_n 0, 1) := by decide +kernel
theorem dX5_settle_100 : decode cX5_settle 100 = .ok (.getfield 16, 3) := by decide +kernel
theorem dX5_settle_103 : decode cX5_settle 103 = .ok (.iload_n 1, 1) := by decide +kernel
theorem dX5_settle_104 : decode cX5_settle 104 = .ok (.laload, 1) := by decide +kernel
theorem dX5_settle_105 : decode cX5_settle 105 = .ok (.lload_n 2, 1) := by decide +kernel
theorem dX5_settle_106 : decode cX5_settle 106 = .ok (.aload_n 0, 1) := by decide +kernel
theorem dX5_settle_107 : decode cX5_settle 107 = .ok (.getfield 13, 3) := by decide +kernel
theorem dX5_settle_110 : decode cX5_settle 110 = .ok (.iload_n 1, 1) := by decide +kernel
theorem dX5_settle_111 : decode cX5_settle 111 = .ok (.laload, 1) := by decide +kernel
theorem dX5_settle_112 : decode cX5_settle 112 = .ok (.lload 4, 2) := by decide +kernel
theorem dX5_settle_114 : decode cX5_settle 114 = .ok (.ladd, 1) := by decide +kernel
theorem dX5_settle_115 : decode cX5_settle 115 = .ok (.ldc2_w 43, 3) := by decide +kernel
theorem dX5_settle_118 : decode cX5_settle 118 = .ok (.ldiv, 1) := by decide +kernel
theorem dX5_settle_119 : decode cX5_settle 119 = .ok (.lmul, 1) := by decide +kernel
theorem dX5_settle_120 : decode cX5_settle 120 = .ok (.ladd, 1) := by decide +kernel
theorem dX5_settle_121 : decode cX5_settle 121 = .ok (.invokevirtual 35, 3) := by decide +kernel
theorem dX5_settle_124 : decode cX5_settle 124 = .ok (.goto (-124), 3) := by decide +kernel
theorem dX5_settle_127 : decode cX5_settle 127 = .ok (.aload_n 0, 1) := by decide +kernel
theorem dX5_settle_128 : decode cX5_settle 128 = .ok (.iload_n 1, 1) := by decide +kernel
theorem dX5_settle_129 : decode cX5_settle 129 = .ok (.aload_n 0, 1) := by decide +kernel
theorem dX5_settle_130 : decode cX5_settle 130 = .ok (.getfield 16, 3) := by decide +kernel
theorem dX5_settle_133 : decode cX5_settle 133 = .ok (.iload_n 1, 1) := by decide +kernel
theorem dX5_settle_134 : decode cX5_settle 134 = .ok (.laload, 1) := by decide +kernel
theorem dX5_settle_135 : decode cX5_settle 135 = .ok (.aload_n 0, 1) := by decide +kernel
theorem dX5_settle_136 : decode cX5_settle 136 = .ok (.getfield 13, 3) := by decide +kernel
theorem dX5_settle_139 : decode cX5_settle 139 = .ok (.iload_n 1, 1) := by decide +kernel
theorem dX5_settle_140 : decode cX5_settle 140 = .ok (.laload, 1) := by decide +kernel
theorem dX5_settle_141 : decode cX5_settle 141 = .ok (.lneg, 1) := by decide +kernel
theorem dX5_settle_142 : decode cX5_settle 142 = .ok (.aload_n 0, 1) := by decide +kernel
theorem dX5_settle_143 : decode cX5_settle 143 = .ok (.getfield 7, 3) := by decide +kernel
theorem dX5_settle_146 : decode cX5_settle 146 = .ok (.iload_n 1, 1) := by decide +kernel
theorem dX5_settle_147 : decode cX5_settle 147 = .ok (.laload, 1) := by decide +kernel
theorem dX5_settle_148 : decode cX5_settle 148 = .ok (.invokevirtual 35, 3) := by decide +kernel
theorem dX5_settle_151 : decode cX5_settle 151 = .ok (.goto (-151), 3) := by decide +kernel
theorem dX5_settle_154 : decode cX5_settle 154 = .ok (.return_, 1) := by decide +kernel
theorem dX5_valueOf_0 : decode cX5_valueOf 0 = .ok (.lload_n 0, 1) := by decide +kernel
theorem dX5_valueOf_1 : decode cX5_valueOf 1 = .ok (.lload 6, 2) := by decide +kernel
theorem dX5_valueOf_3 : decode cX5_valueOf 3 = .ok (.lmul, 1) := by decide +kernel
theorem dX5_valueOf_4 : decode cX5_valueOf 4 = .ok (.lload 6, 2) := by decide +kernel
theorem dX5_valueOf_6 : decode cX5_valueOf 6 = .ok (.lmul, 1) := by decide +kernel
theorem dX5_valueOf_7 : decode cX5_valueOf 7 = .ok (.lload_n 2, 1) := by decide +kernel
theorem dX5_valueOf_8 : decode cX5_valueOf 8 = .ok (.lload 6, 2) := by decide +kernel
theorem dX5_valueOf_10 : decode cX5_valueOf 10 = .ok (.lmul, 1) := by decide +kernel
theorem dX5_valueOf_11 : decode cX5_valueOf 11 = .ok (.lload 8, 2) := by decide +kernel
theorem dX5_valueOf_13 : decode cX5_valueOf 13 = .ok (.lmul, 1) := by decide +kernel
theorem dX5_valueOf_14 : decode cX5_valueOf 14 = .ok (.ladd, 1) := by decide +kernel
theorem dX5_valueOf_15 : decode cX5_valueOf 15 = .ok (.lload 4, 2) := by decide +kernel
theorem dX5_valueOf_17 : decode cX5_valueOf 17 = .ok (.lload 8, 2) := by decide +kernel
theorem dX5_valueOf_19 : decode cX5_valueOf 19 = .ok (.lmul, 1) := by decide +kernel
theorem dX5_valueOf_20 : decode cX5_valueOf 20 = .ok (.lload 8, 2) := by decide +kernel
theorem dX5_valueOf_22 : decode cX5_valueOf 22 = .ok (.lmul, 1) := by decide +kernel
theorem dX5_valueOf_23 : decode cX5_valueOf 23 = .ok (.ladd, 1) := by decide +kernel
theorem dX5_valueOf_24 : decode cX5_valueOf 24 = .ok (.lreturn, 1) := by decide +kernel
theorem dX5_unite_0 : decode cX5_unite 0 = .ok (.aload_n 0, 1) := by decide +kernel
theorem dX5_unite_1 : decode cX5_unite 1 = .ok (.getfield 7, 3) := by decide +kernel
theorem dX5_unite_4 : decode cX5_unite 4 = .ok (.bipush 58, 2) := by decide +kernel
theorem dX5_unite_6 : decode cX5_unite 6 = .ok (.laload, 1) := by decide +kernel
theorem dX5_unite_7 : decode cX5_unite 7 = .ok (.lstore_n 2, 1) := by decide +kernel
theorem dX5_unite_8 : decode cX5_unite 8 = .ok (.aload_n 0, 1) := by decide +kernel
theorem dX5_unite_9 : decode cX5_unite 9 = .ok (.getfield 13, 3) := by decide +kernel
theorem dX5_unite_12 : decode cX5_unite 12 = .ok (.bipush 58, 2) := by decide +kernel
theorem dX5_unite_14 : decode cX5_unite 14 = .ok (.laload, 1) := by decide +kernel
theorem dX5_unite_15 : decode cX5_unite 15 = .ok (.lstore 4, 2) := by decide +kernel
theorem dX5_unite_17 : decode cX5_unite 17 = .ok (.aload_n 0, 1) := by decide +kernel
theorem dX5_unite_18 : decode cX5_unite 18 = .ok (.getfield 7, 3) := by decide +kernel
theorem dX5_unite_21 : decode cX5_unite 21 = .ok (.bipush 59, 2) := by decide +kernel
theorem dX5_unite_23 : decode cX5_unite 23 = .ok (.laload, 1) := by decide +kernel
theorem dX5_unite_24 : decode cX5_unite 24 = .ok (.lstore 6, 2) := by decide +kernel
theorem dX5_unite_26 : decode cX5_unite 26 = .ok (.aload_n 0, 1) := by decide +kernel
theorem dX5_unite_27 : decode cX5_unite 27 = .ok (.getfield 13, 3) := by decide +kernel
theorem dX5_unite_30 : decode cX5_unite 30 = .ok (.bipush 59, 2) := by decide +kernel
theorem dX5_unite_32 : decode cX5_unite 32 = .ok (.laload, 1) := by decide +kernel
theorem dX5_unite_33 : decode cX5_unite 33 = .ok (.lstore 8, 2) := by decide +kernel
theorem dX5_unite_35 : decode cX5_unite 35 = .ok (.aload_n 0, 1) := by decide +kernel
theorem dX5_unite_36 : decode cX5_unite 36 = .ok (.getfield 16, 3) := by decide +kernel
theorem dX5_unite_39 : decode cX5_unite 39 = .ok (.bipush 59, 2) := by decide +kernel
theorem dX5_unite_41 : decode cX5_unite 41 = .ok (.laload, 1) := by decide +kernel
theorem dX5_unite_42 : decode cX5_unite 42 = .ok (.lstore 10, 2) := by decide +kernel
theorem dX5_unite_44 : decode cX5_unite 44 = .ok (.lconst 1, 1) := by decide +kernel
theorem dX5_unite_45 : decode cX5_unite 45 = .ok (.lstore 12, 2) := by decide +kernel
theorem dX5_unite_47 : decode cX5_unite 47 = .ok (.lconst 0, 1) := by decide +kernel
theorem dX5_unite_48 : decode cX5_unite 48 = .ok (.lstore 14, 2) := by decide +kernel
theorem dX5_unite_50 : decode cX5_unite 50 = .ok (.iconst 1, 1) := by decide +kernel
theorem dX5_unite_51 : decode cX5_unite 51 = .ok (.istore 16, 2) := by decide +kernel
theorem dX5_unite_53 : decode cX5_unite 53 = .ok (.lload 12, 2) := by decide +kernel
theorem dX5_unite_55 : decode cX5_unite 55 = .ok (.lload 14, 2) := by decide +kernel
theorem dX5_unite_57 : decode cX5_unite 57 = .ok (.invokestatic 48, 3) := by decide +kernel
theorem dX5_unite_60 : decode cX5_unite 60 = .ok (.lconst 1, 1) := by decide +kernel
theorem dX5_unite_61 : decode cX5_unite 61 = .ok (.lcmp, 1) := by decide +kernel
theorem dX5_unite_62 : decode cX5_unite 62 = .ok (.ifCond .ne 25, 3) := by decide +kernel
theorem dX5_unite_65 : decode cX5_unite 65 = .ok (.lload 6, 2) := by decide +kernel
theorem dX5_unite_67 : decode cX5_unite 67 = .ok (.lload 8, 2) := by decide +kernel
theorem dX5_unite_69 : decode cX5_unite 69 = .ok (.lload 10, 2) := by decide +kernel
theorem dX5_unite_71 : decode cX5_unite 71 = .ok (.lload 12, 2) := by decide +kernel
theorem dX5_unite_73 : decode cX5_unite 73 = .ok (.lload 14, 2) := by decide +kernel
theorem dX5_unite_75 : decode cX5_unite 75 = .ok (.invokestatic 51, 3) := by decide +kernel
theorem dX5_unite_78 : decode cX5_unite 78 = .ok (.lload_n 2, 1) := by decide +kernel
theorem dX5_unite_79 : decode cX5_unite 79 = .ok (.invokestatic 48, 3) := by decide +kernel
theorem dX5_unite_82 : decode cX5_unite 82 = .ok (.lconst 1, 1) := by decide +kernel
theorem dX5_unite_83 : decode cX5_unite 83 = .ok (.lcmp, 1) := by decide +kernel
theorem dX5_unite_84 : decode cX5_unite 84 = .ok (.ifCond .eq 51, 3) := by decide +kernel
theorem dX5_unite_87 : decode cX5_unite 87 = .ok (.lload 14, 2) := by decide +kernel
theorem dX5_unite_89 : decode cX5_unite 89 = .ok (.lconst 1, 1) := by decide +kernel
theorem dX5_unite_90 : decode cX5_unite 90 = .ok (.ladd, 1) := by decide +kernel
theorem dX5_unite_91 : decode cX5_unite 91 = .ok (.lstore 14, 2) := by decide +kernel
theorem dX5_unite_93 : decode cX5_unite 93 = .ok (.lload 14, 2) := by decide +kernel
theorem dX5_unite_95 : decode cX5_unite 95 = .ok (.iload 16, 2) := by decide +kernel
theorem dX5_unite_97 : decode cX5_unite 97 = .ok (.i2l, 1) := by decide +kernel
theorem dX5_unite_98 : decode cX5_unite 98 = .ok (.lcmp, 1) := by decide +kernel
theorem dX5_unite_99 : decode cX5_unite 99 = .ok (.ifCond .le 15, 3) := by decide +kernel
theorem dX5_unite_102 : decode cX5_unite 102 = .ok (.iload 16, 2) := by decide +kernel
theorem dX5_unite_104 : decode cX5_unite 104 = .ok (.ineg, 1) := by decide +kernel
theorem dX5_unite_105 : decode cX5_unite 105 = .ok (.i2l, 1) := by decide +kernel
theorem dX5_unite_106 : decode cX5_unite 106 = .ok (.lstore 14, 2) := by decide +kernel
theorem dX5_unite_108 : decode cX5_unite 108 = .ok (.lload 12, 2) := by decide +kernel
theorem dX5_unite_110 : decode cX5_unite 110 = .ok (.lconst 1, 1) := by decide +kernel
theorem dX5_unite_111 : decode cX5_unite 111 = .ok (.ladd, 1) := by decide +kernel
theorem dX5_unite_112 : decode cX5_unite 112 = .ok (.lstore 12, 2) := by decide +kernel
theorem dX5_unite_114 : decode cX5_unite 114 = .ok (.lload 12, 2) := by decide +kernel
theorem dX5_unite_116 : decode cX5_unite 116 = .ok (.iload 16, 2) := by decide +kernel
theorem dX5_unite_118 : decode cX5_unite 118 = .ok (.i2l, 1) := by decide +kernel
theorem dX5_unite_119 : decode cX5_unite 119 = .ok (.lcmp, 1) := by decide +kernel
theorem dX5_unite_120 : decode cX5_unite 120 = .ok (.ifCond .le (-67), 3) := by decide +kernel
theorem dX5_unite_123 : decode cX5_unite 123 = .ok (.iinc 16 1, 3) := by decide +kernel
theorem dX5_unite_126 : decode cX5_unite 126 = .ok (.lconst 0, 1) := by decide +kernel
theorem dX5_unite_127 : decode cX5_unite 127 = .ok (.lstore 12, 2) := by decide +kernel
theorem dX5_unite_129 : decode cX5_unite 129 = .ok (.lconst 1, 1) := by decide +kernel
theorem dX5_unite_130 : decode cX5_unite 130 = .ok (.lstore 14, 2) := by decide +kernel
theorem dX5_unite_132 : decode cX5_unite 132 = .ok (.goto (-79), 3) := by decide +kernel
theorem dX5_unite_135 : decode cX5_unite 135 = .ok (.lload 6, 2) := by decide +kernel
theorem dX5_unite_137 : decode cX5_unite 137 = .ok (.lload 8, 2) := by decide +kernel
theorem dX5_unite_139 : decode cX5_unite 139 = .ok (.lload 10, 2) := by decide +kernel
theorem dX5_unite_141 : decode cX5_unite 141 = .ok (.lload 12, 2) := by decide +kernel
theorem dX5_unite_143 : decode cX5_unite 143 = .ok (.lload 14, 2) := by decide +kernel
theorem dX5_unite_145 : decode cX5_unite 145 = .ok (.invokestatic 51, 3) := by decide +kernel
theorem dX5_unite_148 : decode cX5_unite 148 = .ok (.lstore 17, 2) := by decide +kernel
theorem dX5_unite_150 : decode cX5_unite 150 = .ok (.lload 14, 2) := by decide +kernel
theorem dX5_unite_152 : decode cX5_unite 152 = .ok (.lconst 0, 1) := by decide +kernel
theorem dX5_unite_153 : decode cX5_unite 153 = .ok (.lcmp, 1) := by decide +kernel
theorem dX5_unite_154 : decode cX5_unite 154 = .ok (.ifCond .ne 7, 3) := by decide +kernel
theorem dX5_unite_157 : decode cX5_unite 157 = .ok (.lconst 1, 1) := by decide +kernel
theorem dX5_unite_158 : decode cX5_unite 158 = .ok (.goto 23, 3) := by decide +kernel
theorem dX5_unite_161 : decode cX5_unite 161 = .ok (.lload 12, 2) := by decide +kernel
theorem dX5_unite_163 : decode cX5_unite 163 = .ok (.lload 14, 2) := by decide +kernel
theorem dX5_unite_165 : decode cX5_unite 165 = .ok (.lconst 0, 1) := by decide +kernel
theorem dX5_unite_166 : decode cX5_unite 166 = .ok (.lcmp, 1) := by decide +kernel
theorem dX5_unite_167 : decode cX5_unite 167 = .ok (.ifCond .ge 9, 3) := by decide +kernel
theorem dX5_unite_170 : decode cX5_unite 170 = .ok (.lload 14, 2) := by decide +kernel
theorem dX5_unite_172 : decode cX5_unite 172 = .ok (.lneg, 1) := by decide +kernel
theorem dX5_unite_173 : decode cX5_unite 173 = .ok (.goto 5, 3) := by decide +kernel
theorem dX5_unite_176 : decode cX5_unite 176 = .ok (.lload 14, 2) := by decide +kernel
theorem dX5_unite_178 : decode cX5_unite 178 = .ok (.invokestatic 55, 3) := by decide +kernel
theorem dX5_unite_181 : decode cX5_unite 181 = .ok (.lstore 19, 2) := by decide +kernel
theorem dX5_unite_183 : decode cX5_unite 183 = .ok (.lload 14, 2) := by decide +kernel
theorem dX5_unite_185 : decode cX5_unite 185 = .ok (.lconst 0, 1) := by decide +kernel
theorem dX5_unite_186 : decode cX5_unite 186 = .ok (.lcmp, 1) := by decide +kernel
theorem dX5_unite_187 : decode cX5_unite 187 = .ok (.ifCond .ne 7, 3) := by decide +kernel
theorem dX5_unite_190 : decode cX5_unite 190 = .ok (.lconst 0, 1) := by decide +kernel
theorem dX5_unite_191 : decode cX5_unite 191 = .ok (.goto 13, 3) := by decide +kernel
theorem dX5_unite_194 : decode cX5_unite 194 = .ok (.lload 12, 2) := by decide +kernel
theorem dX5_unite_196 : decode cX5_unite 196 = .ok (.lload 19, 2) := by decide +kernel
theorem dX5_unite_198 : decode cX5_unite 198 = .ok (.lmul, 1) := by decide +kernel
theorem dX5_unite_199 : decode cX5_unite 199 = .ok (.lconst 1, 1) := by decide +kernel
theorem dX5_unite_200 : decode cX5_unite 200 = .ok (.lsub, 1) := by decide +kernel
theorem dX5_unite_201 : decode cX5_unite 201 = .ok (.lload 14, 2) := by decide +kernel
theorem dX5_unite_203 : decode cX5_unite 203 = .ok (.ldiv, 1) := by decide +kernel
theorem dX5_unite_204 : decode cX5_unite 204 = .ok (.lstore 21, 2) := by decide +kernel
theorem dX5_unite_206 : decode cX5_unite 206 = .ok (.ldc2_w 43, 3) := by decide +kernel
theorem dX5_unite_209 : decode cX5_unite 209 = .ok (.lload 6, 2) := by decide +kernel
theorem dX5_unite_211 : decode cX5_unite 211 = .ok (.lmul, 1) := by decide +kernel
theorem dX5_unite_212 : decode cX5_unite 212 = .ok (.lload 12, 2) := by decide +kernel
theorem dX5_unite_214 : decode cX5_unite 214 = .ok (.lmul, 1) := by decide +kernel
theorem dX5_unite_215 : decode cX5_unite 215 = .ok (.lload 21, 2) := by decide +kernel
theorem dX5_unite_217 : decode cX5_unite 217 = .ok (.lmul, 1) := by decide +kernel
theorem dX5_unite_218 : decode cX5_unite 218 = .ok (.lload 8, 2) := by decide +kernel
theorem dX5_unite_220 : decode cX5_unite 220 = .ok (.lload 12, 2) := by decide +kernel
theorem dX5_unite_222 : decode cX5_unite 222 = .ok (.lload 19, 2) := by decide +kernel
theorem dX5_unite_224 : decode cX5_unite 224 = .ok (.lmul, 1) := by decide +kernel
theorem dX5_unite_225 : decode cX5_unite 225 = .ok (.lload 14, 2) := by decide +kernel
theorem dX5_unite_227 : decode cX5_unite 227 = .ok (.lload 21, 2) := by decide +kernel
theorem dX5_unite_229 : decode cX5_unite 229 = .ok (.lmul, 1) := by decide +kernel
theorem dX5_unite_230 : decode cX5_unite 230 = .ok (.ladd, 1) := by decide +kernel
theorem dX5_unite_231 : decode cX5_unite 231 = .ok (.lmul, 1) := by decide +kernel
theorem dX5_unite_232 : decode cX5_unite 232 = .ok (.ladd, 1) := by decide +kernel
theorem dX5_unite_233 : decode cX5_unite 233 = .ok (.ldc2_w 43, 3) := by decide +kernel
theorem dX5_unite_236 : decode cX5_unite 236 = .ok (.lload 10, 2) := by decide +kernel
theorem dX5_unite_238 : decode cX5_unite 238 = .ok (.lmul, 1) := by decide +kernel
theorem dX5_unite_239 : decode cX5_unite 239 = .ok (.lload 14, 2) := by decide +kernel
theorem dX5_unite_241 : decode cX5_unite 241 = .ok (.lmul, 1) := by decide +kernel
theorem dX5_unite_242 : decode cX5_unite 242 = .ok (.lload 19, 2) := by decide +kernel
theorem dX5_unite_244 : decode cX5_unite 244 = .ok (.lmul, 1) := by decide +kernel
theorem dX5_unite_245 : decode cX5_unite 245 = .ok (.ladd, 1) := by decide +kernel
theorem dX5_unite_246 : decode cX5_unite 246 = .ok (.lstore 23, 2) := by decide +kernel
theorem dX5_unite_248 : decode cX5_unite 248 = .ok (.lload 17, 2) := by decide +kernel
theorem dX5_unite_250 : decode cX5_unite 250 = .ok (.lconst 1, 1) := by decide +kernel
theorem dX5_unite_251 : decode cX5_unite 251 = .ok (.lcmp, 1) := by decide +kernel
theorem dX5_unite_252 : decode cX5_unite 252 = .ok (.ifCond .ne 7, 3) := by decide +kernel
theorem dX5_unite_255 : decode cX5_unite 255 = .ok (.lconst 0, 1) := by decide +kernel
theorem dX5_unite_256 : decode cX5_unite 256 = .ok (.goto 27, 3) := by decide +kernel
theorem dX5_unite_259 : decode cX5_unite 259 = .ok (.lload 23, 2) := by decide +kernel
theorem dX5_unite_261 : decode cX5_unite 261 = .ok (.lload 4, 2) := by decide +kernel
theorem dX5_unite_263 : decode cX5_unite 263 = .ok (.lsub, 1) := by decide +kernel
theorem dX5_unite_264 : decode cX5_unite 264 = .ok (.ldc2_w 43, 3) := by decide +kernel
theorem dX5_unite_267 : decode cX5_unite 267 = .ok (.ldiv, 1) := by decide +kernel
theorem dX5_unite_268 : decode cX5_unite 268 = .ok (.lload 17, 2) := by decide +kernel
theorem dX5_unite_270 : decode cX5_unite 270 = .ok (.invokestatic 31, 3) := by decide +kernel
theorem dX5_unite_273 : decode cX5_unite 273 = .ok (.lload_n 2, 1) := by decide +kernel
theorem dX5_unite_274 : decode cX5_unite 274 = .ok (.lload 17, 2) := by decide +kernel
theorem dX5_unite_276 : decode cX5_unite 276 = .ok (.invokestatic 55, 3) := by decide +kernel
theorem dX5_unite_279 : decode cX5_unite 279 = .ok (.lmul, 1) := by decide +kernel
theorem dX5_unite_280 : decode cX5_unite 280 = .ok (.lload 17, 2) := by decide +kernel
theorem dX5_unite_282 : decode cX5_unite 282 = .ok (.lrem, 1) := by decide +kernel
theorem dX5_unite_283 : decode cX5_unite 283 = .ok (.lstore 25, 2) := by decide +kernel
theorem dX5_unite_285 : decode cX5_unite 285 = .ok (.aload_n 0, 1) := by decide +kernel
theorem dX5_unite_286 : decode cX5_unite 286 = .ok (.iload_n 1, 1) := by decide +kernel
theorem dX5_unite_287 : decode cX5_unite 287 = .ok (.lload_n 2, 1) := by decide +kernel
theorem dX5_unite_288 : decode cX5_unite 288 = .ok (.lload 17, 2) := by decide +kernel
theorem dX5_unite_290 : decode cX5_unite 290 = .ok (.lmul, 1) := by decide +kernel
theorem dX5_unite_291 : decode cX5_unite 291 = .ok (.lload 4, 2) := by decide +kernel
theorem dX5_unite_293 : decode cX5_unite 293 = .ok (.ldc2_w 43, 3) := by decide +kernel
theorem dX5_unite_296 : decode cX5_unite 296 = .ok (.lload_n 2, 1) := by decide +kernel
theorem dX5_unite_297 : decode cX5_unite 297 = .ok (.lmul, 1) := by decide +kernel
theorem dX5_unite_298 : decode cX5_unite 298 = .ok (.lload 25, 2) := by decide +kernel
theorem dX5_unite_300 : decode cX5_unite 300 = .ok (.lmul, 1) := by decide +kernel
theorem dX5_unite_301 : decode cX5_unite 301 = .ok (.ladd, 1) := by decide +kernel
theorem dX5_unite_302 : decode cX5_unite 302 = .ok (.aload_n 0, 1) := by decide +kernel
theorem dX5_unite_303 : decode cX5_unite 303 = .ok (.getfield 16, 3) := by decide +kernel
theorem dX5_unite_306 : decode cX5_unite 306 = .ok (.bipush 58, 2) := by decide +kernel
theorem dX5_unite_308 : decode cX5_unite 308 = .ok (.laload, 1) := by decide +kernel
theorem dX5_unite_309 : decode cX5_unite 309 = .ok (.lload 25, 2) := by decide +kernel
theorem dX5_unite_311 : decode cX5_unite 311 = .ok (.lload 4, 2) := by decide +kernel
theorem dX5_unite_313 : decode cX5_unite 313 = .ok (.lmul, 1) := by decide +kernel
theorem dX5_unite_314 : decode cX5_unite 314 = .ok (.ladd, 1) := by decide +kernel
theorem dX5_unite_315 : decode cX5_unite 315 = .ok (.lload_n 2, 1) := by decide +kernel
theorem dX5_unite_316 : decode cX5_unite 316 = .ok (.lload 25, 2) := by decide +kernel
theorem dX5_unite_318 : decode cX5_unite 318 = .ok (.lmul, 1) := by decide +kernel
theorem dX5_unite_319 : decode cX5_unite 319 = .ok (.lload 25, 2) := by decide +kernel
theorem dX5_unite_321 : decode cX5_unite 321 = .ok (.lmul, 1) := by decide +kernel
theorem dX5_unite_322 : decode cX5_unite 322 = .ok (.ladd, 1) := by decide +kernel
theorem dX5_unite_323 : decode cX5_unite 323 = .ok (.lload 17, 2) := by decide +kernel
theorem dX5_unite_325 : decode cX5_unite 325 = .ok (.ldiv, 1) := by decide +kernel
theorem dX5_unite_326 : decode cX5_unite 326 = .ok (.invokevirtual 35, 3) := by decide +kernel
theorem dX5_unite_329 : decode cX5_unite 329 = .ok (.aload_n 0, 1) := by decide +kernel
theorem dX5_unite_330 : decode cX5_unite 330 = .ok (.iload_n 1, 1) := by decide +kernel
theorem dX5_unite_331 : decode cX5_unite 331 = .ok (.invokevirtual 58, 3) := by decide +kernel
theorem dX5_unite_334 : decode cX5_unite 334 = .ok (.return_, 1) := by decide +kernel
theorem dX5_times_0 : decode cX5_times 0 = .ok (.aload_n 0, 1) := by decide +kernel
theorem dX5_times_1 : decode cX5_times 1 = .ok (.iload_n 1, 1) := by decide +kernel
theorem dX5_times_2 : decode cX5_times 2 = .ok (.bipush 58, 2) := by decide +kernel
theorem dX5_times_4 : decode cX5_times 4 = .ok (.invokevirtual 62, 3) := by decide +kernel
theorem dX5_times_7 : decode cX5_times 7 = .ok (.aload_n 0, 1) := by decide +kernel
theorem dX5_times_8 : decode cX5_times 8 = .ok (.bipush 58, 2) := by decide +kernel
theorem dX5_times_10 : decode cX5_times 10 = .ok (.invokevirtual 58, 3) := by decide +kernel
theorem dX5_times_13 : decode cX5_times 13 = .ok (.aload_n 0, 1) := by decide +kernel
theorem dX5_times_14 : decode cX5_times 14 = .ok (.iload_n 2, 1) := by decide +kernel
theorem dX5_times_15 : decode cX5_times 15 = .ok (.bipush 59, 2) := by decide +kernel
theorem dX5_times_17 : decode cX5_times 17 = .ok (.invokevirtual 62, 3) := by decide +kernel
theorem dX5_times_20 : decode cX5_times 20 = .ok (.aload_n 0, 1) := by decide +kernel
theorem dX5_times_21 : decode cX5_times 21 = .ok (.bipush 59, 2) := by decide +kernel
theorem dX5_times_23 : decode cX5_times 23 = .ok (.invokevirtual 58, 3) := by decide +kernel
theorem dX5_times_26 : decode cX5_times 26 = .ok (.aload_n 0, 1) := by decide +kernel
theorem dX5_times_27 : decode cX5_times 27 = .ok (.getfield 7, 3) := by decide +kernel
theorem dX5_times_30 : decode cX5_times 30 = .ok (.bipush 58, 2) := by decide +kernel
theorem dX5_times_32 : decode cX5_times 32 = .ok (.laload, 1) := by decide +kernel
theorem dX5_times_33 : decode cX5_times 33 = .ok (.aload_n 0, 1) := by decide +kernel
theorem dX5_times_34 : decode cX5_times 34 = .ok (.getfield 7, 3) := by decide +kernel
theorem dX5_times_37 : decode cX5_times 37 = .ok (.bipush 59, 2) := by decide +kernel
theorem dX5_times_39 : decode cX5_times 39 = .ok (.laload, 1) := by decide +kernel
theorem dX5_times_40 : decode cX5_times 40 = .ok (.lcmp, 1) := by decide +kernel
theorem dX5_times_41 : decode cX5_times 41 = .ok (.ifCond .le 50, 3) := by decide +kernel
theorem dX5_times_44 : decode cX5_times 44 = .ok (.aload_n 0, 1) := by decide +kernel
theorem dX5_times_45 : decode cX5_times 45 = .ok (.getfield 7, 3) := by decide +kernel
theorem dX5_times_48 : decode cX5_times 48 = .ok (.bipush 58, 2) := by decide +kernel
theorem dX5_times_50 : decode cX5_times 50 = .ok (.laload, 1) := by decide +kernel
theorem dX5_times_51 : decode cX5_times 51 = .ok (.lstore 4, 2) := by decide +kernel
theorem dX5_times_53 : decode cX5_times 53 = .ok (.aload_n 0, 1) := by decide +kernel
theorem dX5_times_54 : decode cX5_times 54 = .ok (.getfield 13, 3) := by decide +kernel
theorem dX5_times_57 : decode cX5_times 57 = .ok (.bipush 58, 2) := by decide +kernel
theorem dX5_times_59 : decode cX5_times 59 = .ok (.laload, 1) := by decide +kernel
theorem dX5_times_60 : decode cX5_times 60 = .ok (.lstore 6, 2) := by decide +kernel
theorem dX5_times_62 : decode cX5_times 62 = .ok (.aload_n 0, 1) := by decide +kernel
theorem dX5_times_63 : decode cX5_times 63 = .ok (.getfield 16, 3) := by decide +kernel
theorem dX5_times_66 : decode cX5_times 66 = .ok (.bipush 58, 2) := by decide +kernel
theorem dX5_times_68 : decode cX5_times 68 = .ok (.laload, 1) := by decide +kernel
theorem dX5_times_69 : decode cX5_times 69 = .ok (.lstore 8, 2) := by decide +kernel
theorem dX5_times_71 : decode cX5_times 71 = .ok (.aload_n 0, 1) := by decide +kernel
theorem dX5_times_72 : decode cX5_times 72 = .ok (.bipush 59, 2) := by decide +kernel
theorem dX5_times_74 : decode cX5_times 74 = .ok (.bipush 58, 2) := by decide +kernel
theorem dX5_times_76 : decode cX5_times 76 = .ok (.invokevirtual 62, 3) := by decide +kernel
theorem dX5_times_79 : decode cX5_times 79 = .ok (.aload_n 0, 1) := by decide +kernel
theorem dX5_times_80 : decode cX5_times 80 = .ok (.bipush 59, 2) := by decide +kernel
theorem dX5_times_82 : decode cX5_times 82 = .ok (.lload 4, 2) := by decide +kernel
theorem dX5_times_84 : decode cX5_times 84 = .ok (.lload 6, 2) := by decide +kernel
theorem dX5_times_86 : decode cX5_times 86 = .ok (.lload 8, 2) := by decide +kernel
theorem dX5_times_88 : decode cX5_times 88 = .ok (.invokevirtual 35, 3) := by decide +kernel
theorem dX5_times_91 : decode cX5_times 91 = .ok (.aload_n 0, 1) := by decide +kernel
theorem dX5_times_92 : decode cX5_times 92 = .ok (.iload_n 3, 1) := by decide +kernel
theorem dX5_times_93 : decode cX5_times 93 = .ok (.invokevirtual 66, 3) := by decide +kernel
theorem dX5_times_96 : decode cX5_times 96 = .ok (.return_, 1) := by decide +kernel
theorem dX5_raiseTo_0 : decode cX5_raiseTo 0 = .ok (.aload_n 0, 1) := by decide +kernel
theorem dX5_raiseTo_1 : decode cX5_raiseTo 1 = .ok (.iload_n 1, 1) := by decide +kernel
theorem dX5_raiseTo_2 : decode cX5_raiseTo 2 = .ok (.bipush 57, 2) := by decide +kernel
theorem dX5_raiseTo_4 : decode cX5_raiseTo 4 = .ok (.invokevirtual 62, 3) := by decide +kernel
theorem dX5_raiseTo_7 : decode cX5_raiseTo 7 = .ok (.aload_n 0, 1) := by decide +kernel
theorem dX5_raiseTo_8 : decode cX5_raiseTo 8 = .ok (.bipush 57, 2) := by decide +kernel
theorem dX5_raiseTo_10 : decode cX5_raiseTo 10 = .ok (.invokevirtual 58, 3) := by decide +kernel
theorem dX5_raiseTo_13 : decode cX5_raiseTo 13 = .ok (.aload_n 0, 1) := by decide +kernel
theorem dX5_raiseTo_14 : decode cX5_raiseTo 14 = .ok (.bipush 54, 2) := by decide +kernel
theorem dX5_raiseTo_16 : decode cX5_raiseTo 16 = .ok (.bipush 56, 2) := by decide +kernel
theorem dX5_raiseTo_18 : decode cX5_raiseTo 18 = .ok (.invokevirtual 62, 3) := by decide +kernel
theorem dX5_raiseTo_21 : decode cX5_raiseTo 21 = .ok (.iload_n 2, 1) := by decide +kernel
theorem dX5_raiseTo_22 : decode cX5_raiseTo 22 = .ok (.istore 4, 2) := by decide +kernel
theorem dX5_raiseTo_24 : decode cX5_raiseTo 24 = .ok (.iload 4, 2) := by decide +kernel
theorem dX5_raiseTo_26 : decode cX5_raiseTo 26 = .ok (.ifCond .le 45, 3) := by decide +kernel
theorem dX5_raiseTo_29 : decode cX5_raiseTo 29 = .ok (.iload 4, 2) := by decide +kernel
theorem dX5_raiseTo_31 : decode cX5_raiseTo 31 = .ok (.iconst 2, 1) := by decide +kernel
theorem dX5_raiseTo_32 : decode cX5_raiseTo 32 = .ok (.irem, 1) := by decide +kernel
theorem dX5_raiseTo_33 : decode cX5_raiseTo 33 = .ok (.iconst 1, 1) := by decide +kernel
theorem dX5_raiseTo_34 : decode cX5_raiseTo 34 = .ok (.if_icmp .ne 13, 3) := by decide +kernel
theorem dX5_raiseTo_37 : decode cX5_raiseTo 37 = .ok (.aload_n 0, 1) := by decide +kernel
theorem dX5_raiseTo_38 : decode cX5_raiseTo 38 = .ok (.bipush 56, 2) := by decide +kernel
theorem dX5_raiseTo_40 : decode cX5_raiseTo 40 = .ok (.bipush 57, 2) := by decide +kernel
theorem dX5_raiseTo_42 : decode cX5_raiseTo 42 = .ok (.bipush 56, 2) := by decide +kernel
theorem dX5_raiseTo_44 : decode cX5_raiseTo 44 = .ok (.invokevirtual 69, 3) := by decide +kernel
theorem dX5_raiseTo_47 : decode cX5_raiseTo 47 = .ok (.iload 4, 2) := by decide +kernel
theorem dX5_raiseTo_49 : decode cX5_raiseTo 49 = .ok (.iconst 2, 1) := by decide +kernel
theorem dX5_raiseTo_50 : decode cX5_raiseTo 50 = .ok (.idiv, 1) := by decide +kernel
theorem dX5_raiseTo_51 : decode cX5_raiseTo 51 = .ok (.istore 4, 2) := by decide +kernel
theorem dX5_raiseTo_53 : decode cX5_raiseTo 53 = .ok (.iload 4, 2) := by decide +kernel
theorem dX5_raiseTo_55 : decode cX5_raiseTo 55 = .ok (.ifCond .le (-31), 3) := by decide +kernel
theorem dX5_raiseTo_58 : decode cX5_raiseTo 58 = .ok (.aload_n 0, 1) := by decide +kernel
theorem dX5_raiseTo_59 : decode cX5_raiseTo 59 = .ok (.bipush 57, 2) := by decide +kernel
theorem dX5_raiseTo_61 : decode cX5_raiseTo 61 = .ok (.bipush 57, 2) := by decide +kernel
theorem dX5_raiseTo_63 : decode cX5_raiseTo 63 = .ok (.bipush 57, 2) := by decide +kernel
theorem dX5_raiseTo_65 : decode cX5_raiseTo 65 = .ok (.invokevirtual 69, 3) := by decide +kernel
theorem dX5_raiseTo_68 : decode cX5_raiseTo 68 = .ok (.goto (-44), 3) := by decide +kernel
theorem dX5_raiseTo_71 : decode cX5_raiseTo 71 = .ok (.aload_n 0, 1) := by decide +kernel
theorem dX5_raiseTo_72 : decode cX5_raiseTo 72 = .ok (.bipush 56, 2) := by decide +kernel
theorem dX5_raiseTo_74 : decode cX5_raiseTo 74 = .ok (.iload_n 3, 1) := by decide +kernel
theorem dX5_raiseTo_75 : decode cX5_raiseTo 75 = .ok (.invokevirtual 62, 3) := by decide +kernel
theorem dX5_raiseTo_78 : decode cX5_raiseTo 78 = .ok (.return_, 1) := by decide +kernel
theorem dX5_mix_0 : decode cX5_mix 0 = .ok (.iload_n 0, 1) := by decide +kernel
theorem dX5_mix_1 : decode cX5_mix 1 = .ok (.iload_n 1, 1) := by decide +kernel
theorem dX5_mix_2 : decode cX5_mix 2 = .ok (.ixor, 1) := by decide +kernel
theorem dX5_mix_3 : decode cX5_mix 3 = .ok (.ldc 73, 2) := by decide +kernel
theorem dX5_mix_5 : decode cX5_mix 5 = .ok (.imul, 1) := by decide +kernel
theorem dX5_mix_6 : decode cX5_mix 6 = .ok (.istore_n 2, 1) := by decide +kernel
theorem dX5_mix_7 : decode cX5_mix 7 = .ok (.iload_n 2, 1) := by decide +kernel
theorem dX5_mix_8 : decode cX5_mix 8 = .ok (.iload_n 2, 1) := by decide +kernel
theorem dX5_mix_9 : decode cX5_mix 9 = .ok (.bipush 15, 2) := by decide +kernel
theorem dX5_mix_11 : decode cX5_mix 11 = .ok (.iushr, 1) := by decide +kernel
theorem dX5_mix_12 : decode cX5_mix 12 = .ok (.ixor, 1) := by decide +kernel
theorem dX5_mix_13 : decode cX5_mix 13 = .ok (.ireturn, 1) := by decide +kernel
theorem dX5_mixForm_0 : decode cX5_mixForm 0 = .ok (.iload_n 1, 1) := by decide +kernel
theorem dX5_mixForm_1 : decode cX5_mixForm 1 = .ok (.aload_n 0, 1) := by decide +kernel
theorem dX5_mixForm_2 : decode cX5_mixForm 2 = .ok (.getfield 7, 3) := by decide +kernel
theorem dX5_mixForm_5 : decode cX5_mixForm 5 = .ok (.iload_n 2, 1) := by decide +kernel
theorem dX5_mixForm_6 : decode cX5_mixForm 6 = .ok (.laload, 1) := by decide +kernel
theorem dX5_mixForm_7 : decode cX5_mixForm 7 = .ok (.l2i, 1) := by decide +kernel
theorem dX5_mixForm_8 : decode cX5_mixForm 8 = .ok (.invokestatic 74, 3) := by decide +kernel
theorem dX5_mixForm_11 : decode cX5_mixForm 11 = .ok (.aload_n 0, 1) := by decide +kernel
theorem dX5_mixForm_12 : decode cX5_mixForm 12 = .ok (.getfield 13, 3) := by decide +kernel
theorem dX5_mixForm_15 : decode cX5_mixForm 15 = .ok (.iload_n 2, 1) := by decide +kernel
theorem dX5_mixForm_16 : decode cX5_mixForm 16 = .ok (.laload, 1) := by decide +kernel
theorem dX5_mixForm_17 : decode cX5_mixForm 17 = .ok (.l2i, 1) := by decide +kernel
theorem dX5_mixForm_18 : decode cX5_mixForm 18 = .ok (.invokestatic 74, 3) := by decide +kernel
theorem dX5_mixForm_21 : decode cX5_mixForm 21 = .ok (.ireturn, 1) := by decide +kernel
theorem dX5_isPrime_0 : decode cX5_isPrime 0 = .ok (.iconst 2, 1) := by decide +kernel
theorem dX5_isPrime_1 : decode cX5_isPrime 1 = .ok (.istore_n 1, 1) := by decide +kernel
theorem dX5_isPrime_2 : decode cX5_isPrime 2 = .ok (.iload_n 1, 1) := by decide +kernel
theorem dX5_isPrime_3 : decode cX5_isPrime 3 = .ok (.iload_n 1, 1) := by decide +kernel
theorem dX5_isPrime_4 : decode cX5_isPrime 4 = .ok (.imul, 1) := by decide +kernel
theorem dX5_isPrime_5 : decode cX5_isPrime 5 = .ok (.iload_n 0, 1) := by decide +kernel
theorem dX5_isPrime_6 : decode cX5_isPrime 6 = .ok (.if_icmp .gt 17, 3) := by decide +kernel
theorem dX5_isPrime_9 : decode cX5_isPrime 9 = .ok (.iload_n 0, 1) := by decide +kernel
theorem dX5_isPrime_10 : decode cX5_isPrime 10 = .ok (.iload_n 1, 1) := by decide +kernel
theorem dX5_isPrime_11 : decode cX5_isPrime 11 = .ok (.irem, 1) := by decide +kernel
theorem dX5_isPrime_12 : decode cX5_isPrime 12 = .ok (.ifCond .ne 5, 3) := by decide +kernel
theorem dX5_isPrime_15 : decode cX5_isPrime 15 = .ok (.iconst 0, 1) := by decide +kernel
theorem dX5_isPrime_16 : decode cX5_isPrime 16 = .ok (.ireturn, 1) := by decide +kernel
theorem dX5_isPrime_17 : decode cX5_isPrime 17 = .ok (.iinc 1 1, 3) := by decide +kernel
theorem dX5_isPrime_20 : decode cX5_isPrime 20 = .ok (.goto (-18), 3) := by decide +kernel
theorem dX5_isPrime_23 : decode cX5_isPrime 23 = .ok (.iload_n 0, 1) := by decide +kernel
theorem dX5_isPrime_24 : decode cX5_isPrime 24 = .ok (.iconst 1, 1) := by decide +kernel
theorem dX5_isPrime_25 : decode cX5_isPrime 25 = .ok (.if_icmp .le 7, 3) := by decide +kernel
theorem dX5_isPrime_28 : decode cX5_isPrime 28 = .ok (.iconst 1, 1) := by decide +kernel
theorem dX5_isPrime_29 : decode cX5_isPrime 29 = .ok (.goto 4, 3) := by decide +kernel
theorem dX5_isPrime_32 : decode cX5_isPrime 32 = .ok (.iconst 0, 1) := by decide +kernel
theorem dX5_isPrime_33 : decode cX5_isPrime 33 = .ok (.ireturn, 1) := by decide +kernel
theorem dX5_primeOf_0 : decode cX5_primeOf 0 = .ok (.iconst 3, 1) := by decide +kernel
theorem dX5_primeOf_1 : decode cX5_primeOf 1 = .ok (.aload_n 0, 1) := by decide +kernel
theorem dX5_primeOf_2 : decode cX5_primeOf 2 = .ok (.aload_n 0, 1) := by decide +kernel
theorem dX5_primeOf_3 : decode cX5_primeOf 3 = .ok (.iconst 2, 1) := by decide +kernel
theorem dX5_primeOf_4 : decode cX5_primeOf 4 = .ok (.iload_n 1, 1) := by decide +kernel
theorem dX5_primeOf_5 : decode cX5_primeOf 5 = .ok (.invokevirtual 78, 3) := by decide +kernel
theorem dX5_primeOf_8 : decode cX5_primeOf 8 = .ok (.iload_n 2, 1) := by decide +kernel
theorem dX5_primeOf_9 : decode cX5_primeOf 9 = .ok (.invokevirtual 78, 3) := by decide +kernel
theorem dX5_primeOf_12 : decode cX5_primeOf 12 = .ok (.iload_n 3, 1) := by decide +kernel
theorem dX5_primeOf_13 : decode cX5_primeOf 13 = .ok (.invokestatic 74, 3) := by decide +kernel
theorem dX5_primeOf_16 : decode cX5_primeOf 16 = .ok (.ldc 81, 2) := by decide +kernel
theorem dX5_primeOf_18 : decode cX5_primeOf 18 = .ok (.iand, 1) := by decide +kernel
theorem dX5_primeOf_19 : decode cX5_primeOf 19 = .ok (.iadd, 1) := by decide +kernel
theorem dX5_primeOf_20 : decode cX5_primeOf 20 = .ok (.istore 4, 2) := by decide +kernel
theorem dX5_primeOf_22 : decode cX5_primeOf 22 = .ok (.iload 4, 2) := by decide +kernel
theorem dX5_primeOf_24 : decode cX5_primeOf 24 = .ok (.invokestatic 82, 3) := by decide +kernel
theorem dX5_primeOf_27 : decode cX5_primeOf 27 = .ok (.ifCond .ne 9, 3) := by decide +kernel
theorem dX5_primeOf_30 : decode cX5_primeOf 30 = .ok (.iinc 4 1, 3) := by decide +kernel
theorem dX5_primeOf_33 : decode cX5_primeOf 33 = .ok (.goto (-11), 3) := by decide +kernel
theorem dX5_primeOf_36 : decode cX5_primeOf 36 = .ok (.iload 4, 2) := by decide +kernel
theorem dX5_primeOf_38 : decode cX5_primeOf 38 = .ok (.ireturn, 1) := by decide +kernel
theorem dX5_discriminant_0 : decode cX5_discriminant 0 = .ok (.aload_n 0, 1) := by decide +kernel
theorem dX5_discriminant_1 : decode cX5_discriminant 1 = .ok (.iload_n 1, 1) := by decide +kernel
theorem dX5_discriminant_2 : decode cX5_discriminant 2 = .ok (.bipush 7, 2) := by decide +kernel
theorem dX5_discriminant_4 : decode cX5_discriminant 4 = .ok (.if_icmp .lt 18, 3) := by decide +kernel
theorem dX5_discriminant_7 : decode cX5_discriminant 7 = .ok (.iload_n 1, 1) := by decide +kernel
theorem dX5_discriminant_8 : decode cX5_discriminant 8 = .ok (.ldc 85, 2) := by decide +kernel
theorem dX5_discriminant_10 : decode cX5_discriminant 10 = .ok (.if_icmp .gt 12, 3) := by decide +kernel
theorem dX5_discriminant_13 : decode cX5_discriminant 13 = .ok (.iload_n 1, 1) := by decide +kernel
theorem dX5_discriminant_14 : decode cX5_discriminant 14 = .ok (.bipush 8, 2) := by decide +kernel
theorem dX5_discriminant_16 : decode cX5_discriminant 16 = .ok (.irem, 1) := by decide +kernel
theorem dX5_discriminant_17 : decode cX5_discriminant 17 = .ok (.bipush 7, 2) := by decide +kernel
theorem dX5_discriminant_19 : decode cX5_discriminant 19 = .ok (.if_icmp .eq 7, 3) := by decide +kernel
theorem dX5_discriminant_22 : decode cX5_discriminant 22 = .ok (.iconst 1, 1) := by decide +kernel
theorem dX5_discriminant_23 : decode cX5_discriminant 23 = .ok (.goto 15, 3) := by decide +kernel
theorem dX5_discriminant_26 : decode cX5_discriminant 26 = .ok (.aload_n 0, 1) := by decide +kernel
theorem dX5_discriminant_27 : decode cX5_discriminant 27 = .ok (.getfield 86, 3) := by decide +kernel
theorem dX5_discriminant_30 : decode cX5_discriminant 30 = .ok (.ifCond .eq 7, 3) := by decide +kernel
theorem dX5_discriminant_33 : decode cX5_discriminant 33 = .ok (.iconst 2, 1) := by decide +kernel
theorem dX5_discriminant_34 : decode cX5_discriminant 34 = .ok (.goto 4, 3) := by decide +kernel
theorem dX5_discriminant_37 : decode cX5_discriminant 37 = .ok (.iconst 0, 1) := by decide +kernel
theorem dX5_discriminant_38 : decode cX5_discriminant 38 = .ok (.putfield 27, 3) := by decide +kernel
theorem dX5_discriminant_41 : decode cX5_discriminant 41 = .ok (.aload_n 0, 1) := by decide +kernel
theorem dX5_discriminant_42 : decode cX5_discriminant 42 = .ok (.getfield 27, 3) := by decide +kernel
theorem dX5_discriminant_45 : decode cX5_discriminant 45 = .ok (.ifCond .le 4, 3) := by decide +kernel
theorem dX5_discriminant_48 : decode cX5_discriminant 48 = .ok (.return_, 1) := by decide +kernel
theorem dX5_discriminant_49 : decode cX5_discriminant 49 = .ok (.aload_n 0, 1) := by decide +kernel
theorem dX5_discriminant_50 : decode cX5_discriminant 50 = .ok (.iload_n 1, 1) := by decide +kernel
theorem dX5_discriminant_51 : decode cX5_discriminant 51 = .ok (.i2l, 1) := by decide +kernel
theorem dX5_discriminant_52 : decode cX5_discriminant 52 = .ok (.putfield 90, 3) := by decide +kernel
theorem dX5_discriminant_55 : decode cX5_discriminant 55 = .ok (.aload_n 0, 1) := by decide +kernel
theorem dX5_discriminant_56 : decode cX5_discriminant 56 = .ok (.iconst 0, 1) := by decide +kernel
theorem dX5_discriminant_57 : decode cX5_discriminant 57 = .ok (.putfield 94, 3) := by decide +kernel
theorem dX5_discriminant_60 : decode cX5_discriminant 60 = .ok (.iconst 0, 1) := by decide +kernel
theorem dX5_discriminant_61 : decode cX5_discriminant 61 = .ok (.istore_n 2, 1) := by decide +kernel
theorem dX5_discriminant_62 : decode cX5_discriminant 62 = .ok (.iload_n 2, 1) := by decide +kernel
theorem dX5_discriminant_63 : decode cX5_discriminant 63 = .ok (.iconst 3, 1) := by decide +kernel
theorem dX5_discriminant_64 : decode cX5_discriminant 64 = .ok (.if_icmp .ge 16, 3) := by decide +kernel
theorem dX5_discriminant_67 : decode cX5_discriminant 67 = .ok (.aload_n 0, 1) := by decide +kernel
theorem dX5_discriminant_68 : decode cX5_discriminant 68 = .ok (.getfield 19, 3) := by decide +kernel
theorem dX5_discriminant_71 : decode cX5_discriminant 71 = .ok (.iload_n 2, 1) := by decide +kernel
theorem dX5_discriminant_72 : decode cX5_discriminant 72 = .ok (.iconst 0, 1) := by decide +kernel
theorem dX5_discriminant_73 : decode cX5_discriminant 73 = .ok (.bastore, 1) := by decide +kernel
theorem dX5_discriminant_74 : decode cX5_discriminant 74 = .ok (.iinc 2 1, 3) := by decide +kernel
theorem dX5_discriminant_77 : decode cX5_discriminant 77 = .ok (.goto (-15), 3) := by decide +kernel
theorem dX5_discriminant_80 : decode cX5_discriminant 80 = .ok (.aload_n 0, 1) := by decide +kernel
theorem dX5_discriminant_81 : decode cX5_discriminant 81 = .ok (.bipush 54, 2) := by decide +kernel
theorem dX5_discriminant_83 : decode cX5_discriminant 83 = .ok (.lconst 1, 1) := by decide +kernel
theorem dX5_discriminant_84 : decode cX5_discriminant 84 = .ok (.lconst 1, 1) := by decide +kernel
theorem dX5_discriminant_85 : decode cX5_discriminant 85 = .ok (.lconst 1, 1) := by decide +kernel
theorem dX5_discriminant_86 : decode cX5_discriminant 86 = .ok (.aload_n 0, 1) := by decide +kernel
theorem dX5_discriminant_87 : decode cX5_discriminant 87 = .ok (.getfield 90, 3) := by decide +kernel
theorem dX5_discriminant_90 : decode cX5_discriminant 90 = .ok (.ladd, 1) := by decide +kernel
theorem dX5_discriminant_91 : decode cX5_discriminant 91 = .ok (.ldc2_w 97, 3) := by decide +kernel
theorem dX5_discriminant_94 : decode cX5_discriminant 94 = .ok (.ldiv, 1) := by decide +kernel
theorem dX5_discriminant_95 : decode cX5_discriminant 95 = .ok (.invokevirtual 35, 3) := by decide +kernel
theorem dX5_discriminant_98 : decode cX5_discriminant 98 = .ok (.aload_n 0, 1) := by decide +kernel
theorem dX5_discriminant_99 : decode cX5_discriminant 99 = .ok (.bipush 55, 2) := by decide +kernel
theorem dX5_discriminant_101 : decode cX5_discriminant 101 = .ok (.ldc2_w 43, 3) := by decide +kernel
theorem dX5_discriminant_104 : decode cX5_discriminant 104 = .ok (.lconst 1, 1) := by decide +kernel
theorem dX5_discriminant_105 : decode cX5_discriminant 105 = .ok (.lconst 1, 1) := by decide +kernel
theorem dX5_discriminant_106 : decode cX5_discriminant 106 = .ok (.aload_n 0, 1) := by decide +kernel
theorem dX5_discriminant_107 : decode cX5_discriminant 107 = .ok (.getfield 90, 3) := by decide +kernel
theorem dX5_discriminant_110 : decode cX5_discriminant 110 = .ok (.ladd, 1) := by decide +kernel
theorem dX5_discriminant_111 : decode cX5_discriminant 111 = .ok (.ldc2_w 99, 3) := by decide +kernel
theorem dX5_discriminant_114 : decode cX5_discriminant 114 = .ok (.ldiv, 1) := by decide +kernel
theorem dX5_discriminant_115 : decode cX5_discriminant 115 = .ok (.invokevirtual 35, 3) := by decide +kernel
theorem dX5_discriminant_118 : decode cX5_discriminant 118 = .ok (.aload_n 0, 1) := by decide +kernel
theorem dX5_discriminant_119 : decode cX5_discriminant 119 = .ok (.bipush 55, 2) := by decide +kernel
theorem dX5_discriminant_121 : decode cX5_discriminant 121 = .ok (.invokevirtual 58, 3) := by decide +kernel
theorem dX5_discriminant_124 : decode cX5_discriminant 124 = .ok (.return_, 1) := by decide +kernel
theorem dX5_isAny_0 : decode cX5_isAny 0 = .ok (.aload_n 0, 1) := by decide +kernel
theorem dX5_isAny_1 : decode cX5_isAny 1 = .ok (.getfield 90, 3) := by decide +kernel
theorem dX5_isAny_4 : decode cX5_isAny 4 = .ok (.lconst 0, 1) := by decide +kernel
theorem dX5_isAny_5 : decode cX5_isAny 5 = .ok (.lcmp, 1) := by decide +kernel
theorem dX5_isAny_6 : decode cX5_isAny 6 = .ok (.ifCond .le 7, 3) := by decide +kernel
theorem dX5_isAny_9 : decode cX5_isAny 9 = .ok (.iconst 1, 1) := by decide +kernel
theorem dX5_isAny_10 : decode cX5_isAny 10 = .ok (.goto 4, 3) := by decide +kernel
theorem dX5_isAny_13 : decode cX5_isAny 13 = .ok (.iconst 0, 1) := by decide +kernel
theorem dX5_isAny_14 : decode cX5_isAny 14 = .ok (.ireturn, 1) := by decide +kernel
theorem dX5_begin_0 : decode cX5_begin 0 = .ok (.aload_n 0, 1) := by decide +kernel
theorem dX5_begin_1 : decode cX5_begin 1 = .ok (.aload_n 0, 1) := by decide +kernel
theorem dX5_begin_2 : decode cX5_begin 2 = .ok (.invokevirtual 101, 3) := by decide +kernel
theorem dX5_begin_5 : decode cX5_begin 5 = .ok (.ifCond .ne 7, 3) := by decide +kernel
theorem dX5_begin_8 : decode cX5_begin 8 = .ok (.iconst 1, 1) := by decide +kernel
theorem dX5_begin_9 : decode cX5_begin 9 = .ok (.goto 40, 3) := by decide +kernel
theorem dX5_begin_12 : decode cX5_begin 12 = .ok (.iload_n 1, 1) := by decide +kernel
theorem dX5_begin_13 : decode cX5_begin 13 = .ok (.iconst 1, 1) := by decide +kernel
theorem dX5_begin_14 : decode cX5_begin 14 = .ok (.if_icmp .lt 10, 3) := by decide +kernel
theorem dX5_begin_17 : decode cX5_begin 17 = .ok (.iload_n 1, 1) := by decide +kernel
theorem dX5_begin_18 : decode cX5_begin 18 = .ok (.sipush 500, 3) := by decide +kernel
theorem dX5_begin_21 : decode cX5_begin 21 = .ok (.if_icmp .le 7, 3) := by decide +kernel
theorem dX5_begin_24 : decode cX5_begin 24 = .ok (.iconst 2, 1) := by decide +kernel
theorem dX5_begin_25 : decode cX5_begin 25 = .ok (.goto 24, 3) := by decide +kernel
theorem dX5_begin_28 : decode cX5_begin 28 = .ok (.aload_n 0, 1) := by decide +kernel
theorem dX5_begin_29 : decode cX5_begin 29 = .ok (.getfield 86, 3) := by decide +kernel
theorem dX5_begin_32 : decode cX5_begin 32 = .ok (.ifCond .ne 12, 3) := by decide +kernel
theorem dX5_begin_35 : decode cX5_begin 35 = .ok (.aload_n 0, 1) := by decide +kernel
theorem dX5_begin_36 : decode cX5_begin 36 = .ok (.getfield 94, 3) := by decide +kernel
theorem dX5_begin_39 : decode cX5_begin 39 = .ok (.bipush 16, 2) := by decide +kernel
theorem dX5_begin_41 : decode cX5_begin 41 = .ok (.if_icmp .ne 7, 3) := by decide +kernel
theorem dX5_begin_44 : decode cX5_begin 44 = .ok (.iconst 1, 1) := by decide +kernel
theorem dX5_begin_45 : decode cX5_begin 45 = .ok (.goto 4, 3) := by decide +kernel
theorem dX5_begin_48 : decode cX5_begin 48 = .ok (.iconst 0, 1) := by decide +kernel
theorem dX5_begin_49 : decode cX5_begin 49 = .ok (.putfield 27, 3) := by decide +kernel
theorem dX5_begin_52 : decode cX5_begin 52 = .ok (.aload_n 0, 1) := by decide +kernel
theorem dX5_begin_53 : decode cX5_begin 53 = .ok (.getfield 27, 3) := by decide +kernel
theorem dX5_begin_56 : decode cX5_begin 56 = .ok (.ifCond .le 5, 3) := by decide +kernel
theorem dX5_begin_59 : decode cX5_begin 59 = .ok (.iconst 0, 1) := by decide +kernel
theorem dX5_begin_60 : decode cX5_begin 60 = .ok (.ireturn, 1) := by decide +kernel
theorem dX5_begin_61 : decode cX5_begin 61 = .ok (.iconst 1, 1) := by decide +kernel
theorem dX5_begin_62 : decode cX5_begin 62 = .ok (.aload_n 0, 1) := by decide +kernel
theorem dX5_begin_63 : decode cX5_begin 63 = .ok (.getfield 90, 3) := by decide +kernel
theorem dX5_begin_66 : decode cX5_begin 66 = .ok (.l2i, 1) := by decide +kernel
theorem dX5_begin_67 : decode cX5_begin 67 = .ok (.invokestatic 74, 3) := by decide +kernel
theorem dX5_begin_70 : decode cX5_begin 70 = .ok (.aload_n 0, 1) := by decide +kernel
theorem dX5_begin_71 : decode cX5_begin 71 = .ok (.getfield 94, 3) := by decide +kernel
theorem dX5_begin_74 : decode cX5_begin 74 = .ok (.invokestatic 74, 3) := by decide +kernel
theorem dX5_begin_77 : decode cX5_begin 77 = .ok (.istore_n 2, 1) := by decide +kernel
theorem dX5_begin_78 : decode cX5_begin 78 = .ok (.aload_n 0, 1) := by decide +kernel
theorem dX5_begin_79 : decode cX5_begin 79 = .ok (.getfield 94, 3) := by decide +kernel
theorem dX5_begin_82 : decode cX5_begin 82 = .ok (.ifCond .le 22, 3) := by decide +kernel
theorem dX5_begin_85 : decode cX5_begin 85 = .ok (.aload_n 0, 1) := by decide +kernel
theorem dX5_begin_86 : decode cX5_begin 86 = .ok (.iload_n 2, 1) := by decide +kernel
theorem dX5_begin_87 : decode cX5_begin 87 = .ok (.bipush 6, 2) := by decide +kernel
theorem dX5_begin_89 : decode cX5_begin 89 = .ok (.iconst 3, 1) := by decide +kernel
theorem dX5_begin_90 : decode cX5_begin 90 = .ok (.aload_n 0, 1) := by decide +kernel
theorem dX5_begin_91 : decode cX5_begin 91 = .ok (.getfield 94, 3) := by decide +kernel
theorem dX5_begin_94 : decode cX5_begin 94 = .ok (.imul, 1) := by decide +kernel
theorem dX5_begin_95 : decode cX5_begin 95 = .ok (.iadd, 1) := by decide +kernel
theorem dX5_begin_96 : decode cX5_begin 96 = .ok (.iconst 2, 1) := by decide +kernel
theorem dX5_begin_97 : decode cX5_begin 97 = .ok (.isub, 1) := by decide +kernel
theorem dX5_begin_98 : decode cX5_begin 98 = .ok (.invokevirtual 78, 3) := by decide +kernel
theorem dX5_begin_101 : decode cX5_begin 101 = .ok (.goto 4, 3) := by decide +kernel
theorem dX5_begin_104 : decode cX5_begin 104 = .ok (.iload_n 2, 1) := by decide +kernel
theorem dX5_begin_105 : decode cX5_begin 105 = .ok (.istore_n 2, 1) := by decide +kernel
theorem dX5_begin_106 : decode cX5_begin 106 = .ok (.aload_n 0, 1) := by decide +kernel
theorem dX5_begin_107 : decode cX5_begin 107 = .ok (.getfield 23, 3) := by decide +kernel
theorem dX5_begin_110 : decode cX5_begin 110 = .ok (.bipush 48, 2) := by decide +kernel
theorem dX5_begin_112 : decode cX5_begin 112 = .ok (.iload_n 1, 1) := by decide +kernel
theorem dX5_begin_113 : decode cX5_begin 113 = .ok (.iastore, 1) := by decide +kernel
theorem dX5_begin_114 : decode cX5_begin 114 = .ok (.aload_n 0, 1) := by decide +kernel
theorem dX5_begin_115 : decode cX5_begin 115 = .ok (.getfield 23, 3) := by decide +kernel
theorem dX5_begin_118 : decode cX5_begin 118 = .ok (.bipush 49, 2) := by decide +kernel
theorem dX5_begin_120 : decode cX5_begin 120 = .ok (.iconst 1, 1) := by decide +kernel
theorem dX5_begin_121 : decode cX5_begin 121 = .ok (.iload_n 2, 1) := by decide +kernel
theorem dX5_begin_122 : decode cX5_begin 122 = .ok (.ldc 81, 2) := by decide +kernel
theorem dX5_begin_124 : decode cX5_begin 124 = .ok (.iand, 1) := by decide +kernel
theorem dX5_begin_125 : decode cX5_begin 125 = .ok (.iadd, 1) := by decide +kernel
theorem dX5_begin_126 : decode cX5_begin 126 = .ok (.iastore, 1) := by decide +kernel
theorem dX5_begin_127 : decode cX5_begin 127 = .ok (.aload_n 0, 1) := by decide +kernel
theorem dX5_begin_128 : decode cX5_begin 128 = .ok (.getfield 23, 3) := by decide +kernel
theorem dX5_begin_131 : decode cX5_begin 131 = .ok (.bipush 50, 2) := by decide +kernel
theorem dX5_begin_133 : decode cX5_begin 133 = .ok (.iconst 0, 1) := by decide +kernel
theorem dX5_begin_134 : decode cX5_begin 134 = .ok (.iastore, 1) := by decide +kernel
theorem dX5_begin_135 : decode cX5_begin 135 = .ok (.aload_n 0, 1) := by decide +kernel
theorem dX5_begin_136 : decode cX5_begin 136 = .ok (.bipush 55, 2) := by decide +kernel
theorem dX5_begin_138 : decode cX5_begin 138 = .ok (.aload_n 0, 1) := by decide +kernel
theorem dX5_begin_139 : decode cX5_begin 139 = .ok (.getfield 23, 3) := by decide +kernel
theorem dX5_begin_142 : decode cX5_begin 142 = .ok (.bipush 49, 2) := by decide +kernel
theorem dX5_begin_144 : decode cX5_begin 144 = .ok (.iaload, 1) := by decide +kernel
theorem dX5_begin_145 : decode cX5_begin 145 = .ok (.iconst 3, 1) := by decide +kernel
theorem dX5_begin_146 : decode cX5_begin 146 = .ok (.invokevirtual 105, 3) := by decide +kernel
theorem dX5_begin_149 : decode cX5_begin 149 = .ok (.aload_n 0, 1) := by decide +kernel
theorem dX5_begin_150 : decode cX5_begin 150 = .ok (.iconst 3, 1) := by decide +kernel
theorem dX5_begin_151 : decode cX5_begin 151 = .ok (.iconst 4, 1) := by decide +kernel
theorem dX5_begin_152 : decode cX5_begin 152 = .ok (.invokevirtual 62, 3) := by decide +kernel
theorem dX5_begin_155 : decode cX5_begin 155 = .ok (.aload_n 0, 1) := by decide +kernel
theorem dX5_begin_156 : decode cX5_begin 156 = .ok (.bipush 54, 2) := by decide +kernel
theorem dX5_begin_158 : decode cX5_begin 158 = .ok (.iconst 5, 1) := by decide +kernel
theorem dX5_begin_159 : decode cX5_begin 159 = .ok (.invokevirtual 62, 3) := by decide +kernel
theorem dX5_begin_162 : decode cX5_begin 162 = .ok (.aload_n 0, 1) := by decide +kernel
theorem dX5_begin_163 : decode cX5_begin 163 = .ok (.iconst 1, 1) := by decide +kernel
theorem dX5_begin_164 : decode cX5_begin 164 = .ok (.putfield 86, 3) := by decide +kernel
theorem dX5_begin_167 : decode cX5_begin 167 = .ok (.aload_n 0, 1) := by decide +kernel
theorem dX5_begin_168 : decode cX5_begin 168 = .ok (.iload_n 1, 1) := by decide +kernel
theorem dX5_begin_169 : decode cX5_begin 169 = .ok (.putfield 108, 3) := by decide +kernel
theorem dX5_begin_172 : decode cX5_begin 172 = .ok (.aload_n 0, 1) := by decide +kernel
theorem dX5_begin_173 : decode cX5_begin 173 = .ok (.iload_n 1, 1) := by decide +kernel
theorem dX5_begin_174 : decode cX5_begin 174 = .ok (.putfield 111, 3) := by decide +kernel
theorem dX5_begin_177 : decode cX5_begin 177 = .ok (.aload_n 0, 1) := by decide +kernel
theorem dX5_begin_178 : decode cX5_begin 178 = .ok (.iconst 1, 1) := by decide +kernel
theorem dX5_begin_179 : decode cX5_begin 179 = .ok (.putfield 114, 3) := by decide +kernel
theorem dX5_begin_182 : decode cX5_begin 182 = .ok (.aload_n 0, 1) := by decide +kernel
theorem dX5_begin_183 : decode cX5_begin 183 = .ok (.getfield 23, 3) := by decide +kernel
theorem dX5_begin_186 : decode cX5_begin 186 = .ok (.bipush 49, 2) := by decide +kernel
theorem dX5_begin_188 : decode cX5_begin 188 = .ok (.iaload, 1) := by decide +kernel
theorem dX5_begin_189 : decode cX5_begin 189 = .ok (.ireturn, 1) := by decide +kernel
theorem dX5_isMany_0 : decode cX5_isMany 0 = .ok (.iload_n 0, 1) := by decide +kernel
theorem dX5_isMany_1 : decode cX5_isMany 1 = .ok (.ifCond .le 14, 3) := by decide +kernel
theorem dX5_isMany_4 : decode cX5_isMany 4 = .ok (.iload_n 0, 1) := by decide +kernel
theorem dX5_isMany_5 : decode cX5_isMany 5 = .ok (.sipush 501, 3) := by decide +kernel
theorem dX5_isMany_8 : decode cX5_isMany 8 = .ok (.if_icmp .ge 7, 3) := by decide +kernel
theorem dX5_isMany_11 : decode cX5_isMany 11 = .ok (.iconst 1, 1) := by decide +kernel
theorem dX5_isMany_12 : decode cX5_isMany 12 = .ok (.goto 4, 3) := by decide +kernel
theorem dX5_isMany_15 : decode cX5_isMany 15 = .ok (.iconst 0, 1) := by decide +kernel
theorem dX5_isMany_16 : decode cX5_isMany 16 = .ok (.ireturn, 1) := by decide +kernel
theorem dX5_work_0 : decode cX5_work 0 = .ok (.aload_n 0, 1) := by decide +kernel
theorem dX5_work_1 : decode cX5_work 1 = .ok (.aload_n 0, 1) := by decide +kernel
theorem dX5_work_2 : decode cX5_work 2 = .ok (.invokevirtual 101, 3) := by decide +kernel
theorem dX5_work_5 : decode cX5_work 5 = .ok (.ifCond .ne 7, 3) := by decide +kernel
theorem dX5_work_8 : decode cX5_work 8 = .ok (.iconst 1, 1) := by decide +kernel
theorem dX5_work_9 : decode cX5_work 9 = .ok (.goto 33, 3) := by decide +kernel
theorem dX5_work_12 : decode cX5_work 12 = .ok (.iload_n 1, 1) := by decide +kernel
theorem dX5_work_13 : decode cX5_work 13 = .ok (.invokestatic 117, 3) := by decide +kernel
theorem dX5_work_16 : decode cX5_work 16 = .ok (.ifCond .ne 7, 3) := by decide +kernel
theorem dX5_work_19 : decode cX5_work 19 = .ok (.iconst 2, 1) := by decide +kernel
theorem dX5_work_20 : decode cX5_work 20 = .ok (.goto 22, 3) := by decide +kernel
theorem dX5_work_23 : decode cX5_work 23 = .ok (.aload_n 0, 1) := by decide +kernel
theorem dX5_work_24 : decode cX5_work 24 = .ok (.getfield 86, 3) := by decide +kernel
theorem dX5_work_27 : decode cX5_work 27 = .ok (.ifCond .eq 10, 3) := by decide +kernel
theorem dX5_work_30 : decode cX5_work 30 = .ok (.aload_n 0, 1) := by decide +kernel
theorem dX5_work_31 : decode cX5_work 31 = .ok (.getfield 108, 3) := by decide +kernel
theorem dX5_work_34 : decode cX5_work 34 = .ok (.ifCond .ne 7, 3) := by decide +kernel
theorem dX5_work_37 : decode cX5_work 37 = .ok (.iconst 1, 1) := by decide +kernel
theorem dX5_work_38 : decode cX5_work 38 = .ok (.goto 4, 3) := by decide +kernel
theorem dX5_work_41 : decode cX5_work 41 = .ok (.iconst 0, 1) := by decide +kernel
theorem dX5_work_42 : decode cX5_work 42 = .ok (.putfield 27, 3) := by decide +kernel
theorem dX5_work_45 : decode cX5_work 45 = .ok (.aload_n 0, 1) := by decide +kernel
theorem dX5_work_46 : decode cX5_work 46 = .ok (.getfield 27, 3) := by decide +kernel
theorem dX5_work_49 : decode cX5_work 49 = .ok (.ifCond .le 5, 3) := by decide +kernel
theorem dX5_work_52 : decode cX5_work 52 = .ok (.iconst 0, 1) := by decide +kernel
theorem dX5_work_53 : decode cX5_work 53 = .ok (.ireturn, 1) := by decide +kernel
theorem dX5_work_54 : decode cX5_work 54 = .ok (.iconst 0, 1) := by decide +kernel
theorem dX5_work_55 : decode cX5_work 55 = .ok (.istore_n 2, 1) := by decide +kernel
theorem dX5_work_56 : decode cX5_work 56 = .ok (.iload_n 2, 1) := by decide +kernel
theorem dX5_work_57 : decode cX5_work 57 = .ok (.iload_n 1, 1) := by decide +kernel
theorem dX5_work_58 : decode cX5_work 58 = .ok (.if_icmp .ge 33, 3) := by decide +kernel
theorem dX5_work_61 : decode cX5_work 61 = .ok (.aload_n 0, 1) := by decide +kernel
theorem dX5_work_62 : decode cX5_work 62 = .ok (.getfield 108, 3) := by decide +kernel
theorem dX5_work_65 : decode cX5_work 65 = .ok (.ifCond .le 26, 3) := by decide +kernel
theorem dX5_work_68 : decode cX5_work 68 = .ok (.aload_n 0, 1) := by decide +kernel
theorem dX5_work_69 : decode cX5_work 69 = .ok (.iconst 4, 1) := by decide +kernel
theorem dX5_work_70 : decode cX5_work 70 = .ok (.iconst 4, 1) := by decide +kernel
theorem dX5_work_71 : decode cX5_work 71 = .ok (.iconst 4, 1) := by decide +kernel
theorem dX5_work_72 : decode cX5_work 72 = .ok (.invokevirtual 69, 3) := by decide +kernel
theorem dX5_work_75 : decode cX5_work 75 = .ok (.aload_n 0, 1) := by decide +kernel
theorem dX5_work_76 : decode cX5_work 76 = .ok (.dup, 1) := by decide +kernel
theorem dX5_work_77 : decode cX5_work 77 = .ok (.getfield 108, 3) := by decide +kernel
theorem dX5_work_80 : decode cX5_work 80 = .ok (.iconst 1, 1) := by decide +kernel
theorem dX5_work_81 : decode cX5_work 81 = .ok (.isub, 1) := by decide +kernel
theorem dX5_work_82 : decode cX5_work 82 = .ok (.putfield 108, 3) := by decide +kernel
theorem dX5_work_85 : decode cX5_work 85 = .ok (.iinc 2 1, 3) := by decide +kernel
theorem dX5_work_88 : decode cX5_work 88 = .ok (.goto (-32), 3) := by decide +kernel
theorem dX5_work_91 : decode cX5_work 91 = .ok (.aload_n 0, 1) := by decide +kernel
theorem dX5_work_92 : decode cX5_work 92 = .ok (.getfield 108, 3) := by decide +kernel
theorem dX5_work_95 : decode cX5_work 95 = .ok (.ifCond .ne 23, 3) := by decide +kernel
theorem dX5_work_98 : decode cX5_work 98 = .ok (.aload_n 0, 1) := by decide +kernel
theorem dX5_work_99 : decode cX5_work 99 = .ok (.getfield 23, 3) := by decide +kernel
theorem dX5_work_102 : decode cX5_work 102 = .ok (.bipush 50, 2) := by decide +kernel
theorem dX5_work_104 : decode cX5_work 104 = .ok (.aload_n 0, 1) := by decide +kernel
theorem dX5_work_105 : decode cX5_work 105 = .ok (.iconst 3, 1) := by decide +kernel
theorem dX5_work_106 : decode cX5_work 106 = .ok (.iconst 4, 1) := by decide +kernel
theorem dX5_work_107 : decode cX5_work 107 = .ok (.aload_n 0, 1) := by decide +kernel
theorem dX5_work_108 : decode cX5_work 108 = .ok (.getfield 23, 3) := by decide +kernel
theorem dX5_work_111 : decode cX5_work 111 = .ok (.bipush 48, 2) := by decide +kernel
theorem dX5_work_113 : decode cX5_work 113 = .ok (.iaload, 1) := by decide +kernel
theorem dX5_work_114 : decode cX5_work 114 = .ok (.invokevirtual 120, 3) := by decide +kernel
theorem dX5_work_117 : decode cX5_work 117 = .ok (.iastore, 1) := by decide +kernel
theorem dX5_work_118 : decode cX5_work 118 = .ok (.aload_n 0, 1) := by decide +kernel
theorem dX5_work_119 : decode cX5_work 119 = .ok (.getfield 108, 3) := by decide +kernel
theorem dX5_work_122 : decode cX5_work 122 = .ok (.ireturn, 1) := by decide +kernel
theorem dX5_prove_0 : decode cX5_prove 0 = .ok (.aload_n 0, 1) := by decide +kernel
theorem dX5_prove_1 : decode cX5_prove 1 = .ok (.aload_n 0, 1) := by decide +kernel
theorem dX5_prove_2 : decode cX5_prove 2 = .ok (.invokevirtual 101, 3) := by decide +kernel
theorem dX5_prove_5 : decode cX5_prove 5 = .ok (.ifCond .ne 7, 3) := by decide +kernel
theorem dX5_prove_8 : decode cX5_prove 8 = .ok (.iconst 1, 1) := by decide +kernel
theorem dX5_prove_9 : decode cX5_prove 9 = .ok (.goto 40, 3) := by decide +kernel
theorem dX5_prove_12 : decode cX5_prove 12 = .ok (.iload_n 1, 1) := by decide +kernel
theorem dX5_prove_13 : decode cX5_prove 13 = .ok (.invokestatic 117, 3) := by decide +kernel
theorem dX5_prove_16 : decode cX5_prove 16 = .ok (.ifCond .ne 7, 3) := by decide +kernel
theorem dX5_prove_19 : decode cX5_prove 19 = .ok (.iconst 2, 1) := by decide +kernel
theorem dX5_prove_20 : decode cX5_prove 20 = .ok (.goto 29, 3) := by decide +kernel
theorem dX5_prove_23 : decode cX5_prove 23 = .ok (.aload_n 0, 1) := by decide +kernel
theorem dX5_prove_24 : decode cX5_prove 24 = .ok (.getfield 86, 3) := by decide +kernel
theorem dX5_prove_27 : decode cX5_prove 27 = .ok (.ifCond .eq 17, 3) := by decide +kernel
theorem dX5_prove_30 : decode cX5_prove 30 = .ok (.aload_n 0, 1) := by decide +kernel
theorem dX5_prove_31 : decode cX5_prove 31 = .ok (.getfield 108, 3) := by decide +kernel
theorem dX5_prove_34 : decode cX5_prove 34 = .ok (.ifCond .gt 10, 3) := by decide +kernel
theorem dX5_prove_37 : decode cX5_prove 37 = .ok (.aload_n 0, 1) := by decide +kernel
theorem dX5_prove_38 : decode cX5_prove 38 = .ok (.getfield 111, 3) := by decide +kernel
theorem dX5_prove_41 : decode cX5_prove 41 = .ok (.ifCond .ne 7, 3) := by decide +kernel
theorem dX5_prove_44 : decode cX5_prove 44 = .ok (.iconst 1, 1) := by decide +kernel
theorem dX5_prove_45 : decode cX5_prove 45 = .ok (.goto 4, 3) := by decide +kernel
theorem dX5_prove_48 : decode cX5_prove 48 = .ok (.iconst 0, 1) := by decide +kernel
theorem dX5_prove_49 : decode cX5_prove 49 = .ok (.putfield 27, 3) := by decide +kernel
theorem dX5_prove_52 : decode cX5_prove 52 = .ok (.aload_n 0, 1) := by decide +kernel
theorem dX5_prove_53 : decode cX5_prove 53 = .ok (.getfield 27, 3) := by decide +kernel
theorem dX5_prove_56 : decode cX5_prove 56 = .ok (.ifCond .le 5, 3) := by decide +kernel
theorem dX5_prove_59 : decode cX5_prove 59 = .ok (.iconst 0, 1) := by decide +kernel
theorem dX5_prove_60 : decode cX5_prove 60 = .ok (.ireturn, 1) := by decide +kernel
theorem dX5_prove_61 : decode cX5_prove 61 = .ok (.iconst 0, 1) := by decide +kernel
theorem dX5_prove_62 : decode cX5_prove 62 = .ok (.istore_n 2, 1) := by decide +kernel
theorem dX5_prove_63 : decode cX5_prove 63 = .ok (.iload_n 2, 1) := by decide +kernel
theorem dX5_prove_64 : decode cX5_prove 64 = .ok (.iload_n 1, 1) := by decide +kernel
theorem dX5_prove_65 : decode cX5_prove 65 = .ok (.if_icmp .ge 80, 3) := by decide +kernel
theorem dX5_prove_68 : decode cX5_prove 68 = .ok (.aload_n 0, 1) := by decide +kernel
theorem dX5_prove_69 : decode cX5_prove 69 = .ok (.getfield 111, 3) := by decide +kernel
theorem dX5_prove_72 : decode cX5_prove 72 = .ok (.ifCond .le 73, 3) := by decide +kernel
theorem dX5_prove_75 : decode cX5_prove 75 = .ok (.aload_n 0, 1) := by decide +kernel
theorem dX5_prove_76 : decode cX5_prove 76 = .ok (.iconst 5, 1) := by decide +kernel
theorem dX5_prove_77 : decode cX5_prove 77 = .ok (.iconst 5, 1) := by decide +kernel
theorem dX5_prove_78 : decode cX5_prove 78 = .ok (.iconst 5, 1) := by decide +kernel
theorem dX5_prove_79 : decode cX5_prove 79 = .ok (.invokevirtual 69, 3) := by decide +kernel
theorem dX5_prove_82 : decode cX5_prove 82 = .ok (.aload_n 0, 1) := by decide +kernel
end
section
theorem dX5_prove_83 : decode cX5_prove 83 = .ok (.iconst 2, 1) := by decide +kernel
theorem dX5_prove_84 : decode cX5_prove 84 = .ok (.aload_n 0, 1) := by decide +kernel
theorem dX5_prove_85 : decode cX5_prove 85 = .ok (.getfield 114, 3) := by decide +kernel
theorem dX5_prove_88 : decode cX5_prove 88 = .ok (.imul, 1) := by decide +kernel
theorem dX5_prove_89 : decode cX5_prove 89 = .ok (.putfield 114, 3) := by decide +kernel
theorem dX5_prove_92 : decode cX5_prove 92 = .ok (.aload_n 0, 1) := by decide +kernel
theorem dX5_prove_93 : decode cX5_prove 93 = .ok (.getfield 114, 3) := by decide +kernel
theorem dX5_prove_96 : decode cX5_prove 96 = .ok (.aload_n 0, 1) := by decide +kernel
theorem dX5_prove_97 : decode cX5_prove 97 = .ok (.getfield 23, 3) := by decide +kernel
theorem dX5_prove_100 : decode cX5_prove 100 = .ok (.bipush 50, 2) := by decide +kernel
theorem dX5_prove_102 : decode cX5_prove 102 = .ok (.iaload, 1) := by decide +kernel
theorem dX5_prove_103 : decode cX5_prove 103 = .ok (.if_icmp .lt 26, 3) := by decide +kernel
theorem dX5_prove_106 : decode cX5_prove 106 = .ok (.aload_n 0, 1) := by decide +kernel
theorem dX5_prove_107 : decode cX5_prove 107 = .ok (.aload_n 0, 1) := by decide +kernel
theorem dX5_prove_108 : decode cX5_prove 108 = .ok (.getfield 114, 3) := by decide +kernel
theorem dX5_prove_111 : decode cX5_prove 111 = .ok (.aload_n 0, 1) := by decide +kernel
theorem dX5_prove_112 : decode cX5_prove 112 = .ok (.getfield 23, 3) := by decide +kernel
theorem dX5_prove_115 : decode cX5_prove 115 = .ok (.bipush 50, 2) := by decide +kernel
theorem dX5_prove_117 : decode cX5_prove 117 = .ok (.iaload, 1) := by decide +kernel
theorem dX5_prove_118 : decode cX5_prove 118 = .ok (.isub, 1) := by decide +kernel
theorem dX5_prove_119 : decode cX5_prove 119 = .ok (.putfield 114, 3) := by decide +kernel
theorem dX5_prove_122 : decode cX5_prove 122 = .ok (.aload_n 0, 1) := by decide +kernel
theorem dX5_prove_123 : decode cX5_prove 123 = .ok (.iconst 5, 1) := by decide +kernel
theorem dX5_prove_124 : decode cX5_prove 124 = .ok (.iconst 3, 1) := by decide +kernel
theorem dX5_prove_125 : decode cX5_prove 125 = .ok (.iconst 5, 1) := by decide +kernel
theorem dX5_prove_126 : decode cX5_prove 126 = .ok (.invokevirtual 69, 3) := by decide +kernel
theorem dX5_prove_129 : decode cX5_prove 129 = .ok (.aload_n 0, 1) := by decide +kernel
theorem dX5_prove_130 : decode cX5_prove 130 = .ok (.dup, 1) := by decide +kernel
theorem dX5_prove_131 : decode cX5_prove 131 = .ok (.getfield 111, 3) := by decide +kernel
theorem dX5_prove_134 : decode cX5_prove 134 = .ok (.iconst 1, 1) := by decide +kernel
theorem dX5_prove_135 : decode cX5_prove 135 = .ok (.isub, 1) := by decide +kernel
theorem dX5_prove_136 : decode cX5_prove 136 = .ok (.putfield 111, 3) := by decide +kernel
theorem dX5_prove_139 : decode cX5_prove 139 = .ok (.iinc 2 1, 3) := by decide +kernel
theorem dX5_prove_142 : decode cX5_prove 142 = .ok (.goto (-79), 3) := by decide +kernel
theorem dX5_prove_145 : decode cX5_prove 145 = .ok (.aload_n 0, 1) := by decide +kernel
theorem dX5_prove_146 : decode cX5_prove 146 = .ok (.getfield 111, 3) := by decide +kernel
theorem dX5_prove_149 : decode cX5_prove 149 = .ok (.ireturn, 1) := by decide +kernel
theorem dX5_publish_0 : decode cX5_publish 0 = .ok (.aload_n 0, 1) := by decide +kernel
theorem dX5_publish_1 : decode cX5_publish 1 = .ok (.aload_n 0, 1) := by decide +kernel
theorem dX5_publish_2 : decode cX5_publish 2 = .ok (.invokevirtual 101, 3) := by decide +kernel
theorem dX5_publish_5 : decode cX5_publish 5 = .ok (.ifCond .eq 24, 3) := by decide +kernel
theorem dX5_publish_8 : decode cX5_publish 8 = .ok (.aload_n 0, 1) := by decide +kernel
theorem dX5_publish_9 : decode cX5_publish 9 = .ok (.getfield 86, 3) := by decide +kernel
theorem dX5_publish_12 : decode cX5_publish 12 = .ok (.ifCond .eq 17, 3) := by decide +kernel
theorem dX5_publish_15 : decode cX5_publish 15 = .ok (.aload_n 0, 1) := by decide +kernel
theorem dX5_publish_16 : decode cX5_publish 16 = .ok (.getfield 108, 3) := by decide +kernel
theorem dX5_publish_19 : decode cX5_publish 19 = .ok (.ifCond .gt 10, 3) := by decide +kernel
theorem dX5_publish_22 : decode cX5_publish 22 = .ok (.aload_n 0, 1) := by decide +kernel
theorem dX5_publish_23 : decode cX5_publish 23 = .ok (.getfield 111, 3) := by decide +kernel
theorem dX5_publish_26 : decode cX5_publish 26 = .ok (.ifCond .le 7, 3) := by decide +kernel
theorem dX5_publish_29 : decode cX5_publish 29 = .ok (.iconst 1, 1) := by decide +kernel
theorem dX5_publish_30 : decode cX5_publish 30 = .ok (.goto 4, 3) := by decide +kernel
theorem dX5_publish_33 : decode cX5_publish 33 = .ok (.iconst 0, 1) := by decide +kernel
theorem dX5_publish_34 : decode cX5_publish 34 = .ok (.putfield 27, 3) := by decide +kernel
theorem dX5_publish_37 : decode cX5_publish 37 = .ok (.aload_n 0, 1) := by decide +kernel
theorem dX5_publish_38 : decode cX5_publish 38 = .ok (.getfield 27, 3) := by decide +kernel
theorem dX5_publish_41 : decode cX5_publish 41 = .ok (.ifCond .le 5, 3) := by decide +kernel
theorem dX5_publish_44 : decode cX5_publish 44 = .ok (.iconst 0, 1) := by decide +kernel
theorem dX5_publish_45 : decode cX5_publish 45 = .ok (.ireturn, 1) := by decide +kernel
theorem dX5_publish_46 : decode cX5_publish 46 = .ok (.iconst 0, 1) := by decide +kernel
theorem dX5_publish_47 : decode cX5_publish 47 = .ok (.istore_n 1, 1) := by decide +kernel
theorem dX5_publish_48 : decode cX5_publish 48 = .ok (.iload_n 1, 1) := by decide +kernel
theorem dX5_publish_49 : decode cX5_publish 49 = .ok (.iconst 3, 1) := by decide +kernel
theorem dX5_publish_50 : decode cX5_publish 50 = .ok (.if_icmp .ge 49, 3) := by decide +kernel
theorem dX5_publish_53 : decode cX5_publish 53 = .ok (.aload_n 0, 1) := by decide +kernel
theorem dX5_publish_54 : decode cX5_publish 54 = .ok (.iconst 3, 1) := by decide +kernel
theorem dX5_publish_55 : decode cX5_publish 55 = .ok (.iload_n 1, 1) := by decide +kernel
theorem dX5_publish_56 : decode cX5_publish 56 = .ok (.iadd, 1) := by decide +kernel
theorem dX5_publish_57 : decode cX5_publish 57 = .ok (.bipush 6, 2) := by decide +kernel
theorem dX5_publish_59 : decode cX5_publish 59 = .ok (.iconst 3, 1) := by decide +kernel
theorem dX5_publish_60 : decode cX5_publish 60 = .ok (.aload_n 0, 1) := by decide +kernel
theorem dX5_publish_61 : decode cX5_publish 61 = .ok (.getfield 94, 3) := by decide +kernel
theorem dX5_publish_64 : decode cX5_publish 64 = .ok (.imul, 1) := by decide +kernel
theorem dX5_publish_65 : decode cX5_publish 65 = .ok (.iadd, 1) := by decide +kernel
theorem dX5_publish_66 : decode cX5_publish 66 = .ok (.iload_n 1, 1) := by decide +kernel
theorem dX5_publish_67 : decode cX5_publish 67 = .ok (.iadd, 1) := by decide +kernel
theorem dX5_publish_68 : decode cX5_publish 68 = .ok (.invokevirtual 62, 3) := by decide +kernel
theorem dX5_publish_71 : decode cX5_publish 71 = .ok (.aload_n 0, 1) := by decide +kernel
theorem dX5_publish_72 : decode cX5_publish 72 = .ok (.getfield 23, 3) := by decide +kernel
theorem dX5_publish_75 : decode cX5_publish 75 = .ok (.iconst 3, 1) := by decide +kernel
theorem dX5_publish_76 : decode cX5_publish 76 = .ok (.aload_n 0, 1) := by decide +kernel
theorem dX5_publish_77 : decode cX5_publish 77 = .ok (.getfield 94, 3) := by decide +kernel
theorem dX5_publish_80 : decode cX5_publish 80 = .ok (.imul, 1) := by decide +kernel
theorem dX5_publish_81 : decode cX5_publish 81 = .ok (.iload_n 1, 1) := by decide +kernel
theorem dX5_publish_82 : decode cX5_publish 82 = .ok (.iadd, 1) := by decide +kernel
theorem dX5_publish_83 : decode cX5_publish 83 = .ok (.aload_n 0, 1) := by decide +kernel
theorem dX5_publish_84 : decode cX5_publish 84 = .ok (.getfield 23, 3) := by decide +kernel
theorem dX5_publish_87 : decode cX5_publish 87 = .ok (.bipush 48, 2) := by decide +kernel
theorem dX5_publish_89 : decode cX5_publish 89 = .ok (.iload_n 1, 1) := by decide +kernel
theorem dX5_publish_90 : decode cX5_publish 90 = .ok (.iadd, 1) := by decide +kernel
theorem dX5_publish_91 : decode cX5_publish 91 = .ok (.iaload, 1) := by decide +kernel
theorem dX5_publish_92 : decode cX5_publish 92 = .ok (.iastore, 1) := by decide +kernel
theorem dX5_publish_93 : decode cX5_publish 93 = .ok (.iinc 1 1, 3) := by decide +kernel
theorem dX5_publish_96 : decode cX5_publish 96 = .ok (.goto (-48), 3) := by decide +kernel
theorem dX5_publish_99 : decode cX5_publish 99 = .ok (.aload_n 0, 1) := by decide +kernel
theorem dX5_publish_100 : decode cX5_publish 100 = .ok (.dup, 1) := by decide +kernel
theorem dX5_publish_101 : decode cX5_publish 101 = .ok (.getfield 94, 3) := by decide +kernel
theorem dX5_publish_104 : decode cX5_publish 104 = .ok (.iconst 1, 1) := by decide +kernel
theorem dX5_publish_105 : decode cX5_publish 105 = .ok (.iadd, 1) := by decide +kernel
theorem dX5_publish_106 : decode cX5_publish 106 = .ok (.putfield 94, 3) := by decide +kernel
theorem dX5_publish_109 : decode cX5_publish 109 = .ok (.aload_n 0, 1) := by decide +kernel
theorem dX5_publish_110 : decode cX5_publish 110 = .ok (.iconst 0, 1) := by decide +kernel
theorem dX5_publish_111 : decode cX5_publish 111 = .ok (.putfield 86, 3) := by decide +kernel
theorem dX5_publish_114 : decode cX5_publish 114 = .ok (.aload_n 0, 1) := by decide +kernel
theorem dX5_publish_115 : decode cX5_publish 115 = .ok (.getfield 94, 3) := by decide +kernel
theorem dX5_publish_118 : decode cX5_publish 118 = .ok (.ireturn, 1) := by decide +kernel
theorem dX5_drop_0 : decode cX5_drop 0 = .ok (.aload_n 0, 1) := by decide +kernel
theorem dX5_drop_1 : decode cX5_drop 1 = .ok (.iconst 0, 1) := by decide +kernel
theorem dX5_drop_2 : decode cX5_drop 2 = .ok (.putfield 27, 3) := by decide +kernel
theorem dX5_drop_5 : decode cX5_drop 5 = .ok (.aload_n 0, 1) := by decide +kernel
theorem dX5_drop_6 : decode cX5_drop 6 = .ok (.getfield 86, 3) := by decide +kernel
theorem dX5_drop_9 : decode cX5_drop 9 = .ok (.istore_n 1, 1) := by decide +kernel
theorem dX5_drop_10 : decode cX5_drop 10 = .ok (.aload_n 0, 1) := by decide +kernel
theorem dX5_drop_11 : decode cX5_drop 11 = .ok (.iconst 0, 1) := by decide +kernel
theorem dX5_drop_12 : decode cX5_drop 12 = .ok (.putfield 86, 3) := by decide +kernel
theorem dX5_drop_15 : decode cX5_drop 15 = .ok (.iload_n 1, 1) := by decide +kernel
theorem dX5_drop_16 : decode cX5_drop 16 = .ok (.ireturn, 1) := by decide +kernel
theorem dX5_rounds_0 : decode cX5_rounds 0 = .ok (.aload_n 0, 1) := by decide +kernel
theorem dX5_rounds_1 : decode cX5_rounds 1 = .ok (.iconst 0, 1) := by decide +kernel
theorem dX5_rounds_2 : decode cX5_rounds 2 = .ok (.putfield 27, 3) := by decide +kernel
theorem dX5_rounds_5 : decode cX5_rounds 5 = .ok (.aload_n 0, 1) := by decide +kernel
theorem dX5_rounds_6 : decode cX5_rounds 6 = .ok (.getfield 94, 3) := by decide +kernel
theorem dX5_rounds_9 : decode cX5_rounds 9 = .ok (.ireturn, 1) := by decide +kernel
theorem dX5_place_0 : decode cX5_place 0 = .ok (.iload_n 1, 1) := by decide +kernel
theorem dX5_place_1 : decode cX5_place 1 = .ok (.iconst (-1), 1) := by decide +kernel
theorem dX5_place_2 : decode cX5_place 2 = .ok (.if_icmp .ne 16, 3) := by decide +kernel
theorem dX5_place_5 : decode cX5_place 5 = .ok (.aload_n 0, 1) := by decide +kernel
theorem dX5_place_6 : decode cX5_place 6 = .ok (.getfield 86, 3) := by decide +kernel
theorem dX5_place_9 : decode cX5_place 9 = .ok (.ifCond .eq 7, 3) := by decide +kernel
theorem dX5_place_12 : decode cX5_place 12 = .ok (.iconst 3, 1) := by decide +kernel
theorem dX5_place_13 : decode cX5_place 13 = .ok (.goto 4, 3) := by decide +kernel
theorem dX5_place_16 : decode cX5_place 16 = .ok (.iconst (-1), 1) := by decide +kernel
theorem dX5_place_17 : decode cX5_place 17 = .ok (.ireturn, 1) := by decide +kernel
theorem dX5_place_18 : decode cX5_place 18 = .ok (.iload_n 1, 1) := by decide +kernel
theorem dX5_place_19 : decode cX5_place 19 = .ok (.ifCond .lt 20, 3) := by decide +kernel
theorem dX5_place_22 : decode cX5_place 22 = .ok (.iload_n 1, 1) := by decide +kernel
theorem dX5_place_23 : decode cX5_place 23 = .ok (.aload_n 0, 1) := by decide +kernel
theorem dX5_place_24 : decode cX5_place 24 = .ok (.getfield 94, 3) := by decide +kernel
theorem dX5_place_27 : decode cX5_place 27 = .ok (.if_icmp .ge 12, 3) := by decide +kernel
theorem dX5_place_30 : decode cX5_place 30 = .ok (.bipush 6, 2) := by decide +kernel
theorem dX5_place_32 : decode cX5_place 32 = .ok (.iconst 3, 1) := by decide +kernel
theorem dX5_place_33 : decode cX5_place 33 = .ok (.iload_n 1, 1) := by decide +kernel
theorem dX5_place_34 : decode cX5_place 34 = .ok (.imul, 1) := by decide +kernel
theorem dX5_place_35 : decode cX5_place 35 = .ok (.iadd, 1) := by decide +kernel
theorem dX5_place_36 : decode cX5_place 36 = .ok (.goto 4, 3) := by decide +kernel
theorem dX5_place_39 : decode cX5_place 39 = .ok (.iconst (-1), 1) := by decide +kernel
theorem dX5_place_40 : decode cX5_place 40 = .ok (.ireturn, 1) := by decide +kernel
theorem dX5_told_0 : decode cX5_told 0 = .ok (.aload_n 0, 1) := by decide +kernel
theorem dX5_told_1 : decode cX5_told 1 = .ok (.aload_n 0, 1) := by decide +kernel
theorem dX5_told_2 : decode cX5_told 2 = .ok (.invokevirtual 101, 3) := by decide +kernel
theorem dX5_told_5 : decode cX5_told 5 = .ok (.ifCond .ne 7, 3) := by decide +kernel
theorem dX5_told_8 : decode cX5_told 8 = .ok (.iconst 1, 1) := by decide +kernel
theorem dX5_told_9 : decode cX5_told 9 = .ok (.goto 25, 3) := by decide +kernel
theorem dX5_told_12 : decode cX5_told 12 = .ok (.aload_n 0, 1) := by decide +kernel
theorem dX5_told_13 : decode cX5_told 13 = .ok (.iload_n 1, 1) := by decide +kernel
theorem dX5_told_14 : decode cX5_told 14 = .ok (.invokevirtual 124, 3) := by decide +kernel
theorem dX5_told_17 : decode cX5_told 17 = .ok (.ifCond .lt 12, 3) := by decide +kernel
theorem dX5_told_20 : decode cX5_told 20 = .ok (.iload_n 2, 1) := by decide +kernel
theorem dX5_told_21 : decode cX5_told 21 = .ok (.ifCond .lt 8, 3) := by decide +kernel
theorem dX5_told_24 : decode cX5_told 24 = .ok (.iload_n 2, 1) := by decide +kernel
theorem dX5_told_25 : decode cX5_told 25 = .ok (.iconst 2, 1) := by decide +kernel
theorem dX5_told_26 : decode cX5_told 26 = .ok (.if_icmp .le 7, 3) := by decide +kernel
theorem dX5_told_29 : decode cX5_told 29 = .ok (.iconst 2, 1) := by decide +kernel
theorem dX5_told_30 : decode cX5_told 30 = .ok (.goto 4, 3) := by decide +kernel
theorem dX5_told_33 : decode cX5_told 33 = .ok (.iconst 0, 1) := by decide +kernel
theorem dX5_told_34 : decode cX5_told 34 = .ok (.putfield 27, 3) := by decide +kernel
theorem dX5_told_37 : decode cX5_told 37 = .ok (.aload_n 0, 1) := by decide +kernel
theorem dX5_told_38 : decode cX5_told 38 = .ok (.getfield 27, 3) := by decide +kernel
theorem dX5_told_41 : decode cX5_told 41 = .ok (.ifCond .le 5, 3) := by decide +kernel
theorem dX5_told_44 : decode cX5_told 44 = .ok (.iconst 0, 1) := by decide +kernel
theorem dX5_told_45 : decode cX5_told 45 = .ok (.ireturn, 1) := by decide +kernel
theorem dX5_told_46 : decode cX5_told 46 = .ok (.aload_n 0, 1) := by decide +kernel
theorem dX5_told_47 : decode cX5_told 47 = .ok (.getfield 23, 3) := by decide +kernel
theorem dX5_told_50 : decode cX5_told 50 = .ok (.iload_n 1, 1) := by decide +kernel
theorem dX5_told_51 : decode cX5_told 51 = .ok (.iconst (-1), 1) := by decide +kernel
theorem dX5_told_52 : decode cX5_told 52 = .ok (.if_icmp .ne 10, 3) := by decide +kernel
theorem dX5_told_55 : decode cX5_told 55 = .ok (.bipush 48, 2) := by decide +kernel
theorem dX5_told_57 : decode cX5_told 57 = .ok (.iload_n 2, 1) := by decide +kernel
theorem dX5_told_58 : decode cX5_told 58 = .ok (.iadd, 1) := by decide +kernel
theorem dX5_told_59 : decode cX5_told 59 = .ok (.goto 8, 3) := by decide +kernel
theorem dX5_told_62 : decode cX5_told 62 = .ok (.iconst 3, 1) := by decide +kernel
theorem dX5_told_63 : decode cX5_told 63 = .ok (.iload_n 1, 1) := by decide +kernel
theorem dX5_told_64 : decode cX5_told 64 = .ok (.imul, 1) := by decide +kernel
theorem dX5_told_65 : decode cX5_told 65 = .ok (.iload_n 2, 1) := by decide +kernel
theorem dX5_told_66 : decode cX5_told 66 = .ok (.iadd, 1) := by decide +kernel
theorem dX5_told_67 : decode cX5_told 67 = .ok (.iaload, 1) := by decide +kernel
theorem dX5_told_68 : decode cX5_told 68 = .ok (.ireturn, 1) := by decide +kernel
theorem dX5_partOf_0 : decode cX5_partOf 0 = .ok (.iload_n 2, 1) := by decide +kernel
theorem dX5_partOf_1 : decode cX5_partOf 1 = .ok (.ifCond .ne 12, 3) := by decide +kernel
theorem dX5_partOf_4 : decode cX5_partOf 4 = .ok (.aload_n 0, 1) := by decide +kernel
theorem dX5_partOf_5 : decode cX5_partOf 5 = .ok (.getfield 7, 3) := by decide +kernel
theorem dX5_partOf_8 : decode cX5_partOf 8 = .ok (.iload_n 1, 1) := by decide +kernel
theorem dX5_partOf_9 : decode cX5_partOf 9 = .ok (.laload, 1) := by decide +kernel
theorem dX5_partOf_10 : decode cX5_partOf 10 = .ok (.goto 23, 3) := by decide +kernel
theorem dX5_partOf_13 : decode cX5_partOf 13 = .ok (.iload_n 2, 1) := by decide +kernel
theorem dX5_partOf_14 : decode cX5_partOf 14 = .ok (.iconst 1, 1) := by decide +kernel
theorem dX5_partOf_15 : decode cX5_partOf 15 = .ok (.if_icmp .ne 12, 3) := by decide +kernel
theorem dX5_partOf_18 : decode cX5_partOf 18 = .ok (.aload_n 0, 1) := by decide +kernel
theorem dX5_partOf_19 : decode cX5_partOf 19 = .ok (.getfield 13, 3) := by decide +kernel
theorem dX5_partOf_22 : decode cX5_partOf 22 = .ok (.iload_n 1, 1) := by decide +kernel
theorem dX5_partOf_23 : decode cX5_partOf 23 = .ok (.laload, 1) := by decide +kernel
theorem dX5_partOf_24 : decode cX5_partOf 24 = .ok (.goto 9, 3) := by decide +kernel
theorem dX5_partOf_27 : decode cX5_partOf 27 = .ok (.aload_n 0, 1) := by decide +kernel
theorem dX5_partOf_28 : decode cX5_partOf 28 = .ok (.getfield 16, 3) := by decide +kernel
theorem dX5_partOf_31 : decode cX5_partOf 31 = .ok (.iload_n 1, 1) := by decide +kernel
theorem dX5_partOf_32 : decode cX5_partOf 32 = .ok (.laload, 1) := by decide +kernel
theorem dX5_partOf_33 : decode cX5_partOf 33 = .ok (.lreturn, 1) := by decide +kernel
theorem dX5_form_0 : decode cX5_form 0 = .ok (.aload_n 0, 1) := by decide +kernel
theorem dX5_form_1 : decode cX5_form 1 = .ok (.aload_n 0, 1) := by decide +kernel
theorem dX5_form_2 : decode cX5_form 2 = .ok (.invokevirtual 101, 3) := by decide +kernel
theorem dX5_form_5 : decode cX5_form 5 = .ok (.ifCond .ne 7, 3) := by decide +kernel
theorem dX5_form_8 : decode cX5_form 8 = .ok (.iconst 1, 1) := by decide +kernel
theorem dX5_form_9 : decode cX5_form 9 = .ok (.goto 34, 3) := by decide +kernel
theorem dX5_form_12 : decode cX5_form 12 = .ok (.aload_n 0, 1) := by decide +kernel
theorem dX5_form_13 : decode cX5_form 13 = .ok (.iload_n 1, 1) := by decide +kernel
theorem dX5_form_14 : decode cX5_form 14 = .ok (.invokevirtual 124, 3) := by decide +kernel
theorem dX5_form_17 : decode cX5_form 17 = .ok (.ifCond .lt 21, 3) := by decide +kernel
theorem dX5_form_20 : decode cX5_form 20 = .ok (.iload_n 2, 1) := by decide +kernel
theorem dX5_form_21 : decode cX5_form 21 = .ok (.ifCond .lt 17, 3) := by decide +kernel
theorem dX5_form_24 : decode cX5_form 24 = .ok (.iload_n 2, 1) := by decide +kernel
theorem dX5_form_25 : decode cX5_form 25 = .ok (.iconst 2, 1) := by decide +kernel
theorem dX5_form_26 : decode cX5_form 26 = .ok (.if_icmp .gt 12, 3) := by decide +kernel
theorem dX5_form_29 : decode cX5_form 29 = .ok (.iload_n 3, 1) := by decide +kernel
theorem dX5_form_30 : decode cX5_form 30 = .ok (.ifCond .lt 8, 3) := by decide +kernel
theorem dX5_form_33 : decode cX5_form 33 = .ok (.iload_n 3, 1) := by decide +kernel
theorem dX5_form_34 : decode cX5_form 34 = .ok (.iconst 2, 1) := by decide +kernel
theorem dX5_form_35 : decode cX5_form 35 = .ok (.if_icmp .le 7, 3) := by decide +kernel
theorem dX5_form_38 : decode cX5_form 38 = .ok (.iconst 2, 1) := by decide +kernel
theorem dX5_form_39 : decode cX5_form 39 = .ok (.goto 4, 3) := by decide +kernel
theorem dX5_form_42 : decode cX5_form 42 = .ok (.iconst 0, 1) := by decide +kernel
theorem dX5_form_43 : decode cX5_form 43 = .ok (.putfield 27, 3) := by decide +kernel
theorem dX5_form_46 : decode cX5_form 46 = .ok (.aload_n 0, 1) := by decide +kernel
theorem dX5_form_47 : decode cX5_form 47 = .ok (.getfield 27, 3) := by decide +kernel
theorem dX5_form_50 : decode cX5_form 50 = .ok (.ifCond .le 7, 3) := by decide +kernel
theorem dX5_form_53 : decode cX5_form 53 = .ok (.iconst 0, 1) := by decide +kernel
theorem dX5_form_54 : decode cX5_form 54 = .ok (.goto 16, 3) := by decide +kernel
theorem dX5_form_57 : decode cX5_form 57 = .ok (.aload_n 0, 1) := by decide +kernel
theorem dX5_form_58 : decode cX5_form 58 = .ok (.aload_n 0, 1) := by decide +kernel
theorem dX5_form_59 : decode cX5_form 59 = .ok (.iload_n 1, 1) := by decide +kernel
theorem dX5_form_60 : decode cX5_form 60 = .ok (.invokevirtual 124, 3) := by decide +kernel
theorem dX5_form_63 : decode cX5_form 63 = .ok (.iload_n 2, 1) := by decide +kernel
theorem dX5_form_64 : decode cX5_form 64 = .ok (.iadd, 1) := by decide +kernel
theorem dX5_form_65 : decode cX5_form 65 = .ok (.iload_n 3, 1) := by decide +kernel
theorem dX5_form_66 : decode cX5_form 66 = .ok (.invokevirtual 128, 3) := by decide +kernel
theorem dX5_form_69 : decode cX5_form 69 = .ok (.l2i, 1) := by decide +kernel
theorem dX5_form_70 : decode cX5_form 70 = .ok (.ireturn, 1) := by decide +kernel
theorem dX5_restOf_0 : decode cX5_restOf 0 = .ok (.iconst 1, 1) := by decide +kernel
theorem dX5_restOf_1 : decode cX5_restOf 1 = .ok (.istore_n 2, 1) := by decide +kernel
theorem dX5_restOf_2 : decode cX5_restOf 2 = .ok (.iconst 0, 1) := by decide +kernel
theorem dX5_restOf_3 : decode cX5_restOf 3 = .ok (.istore_n 3, 1) := by decide +kernel
theorem dX5_restOf_4 : decode cX5_restOf 4 = .ok (.iload_n 3, 1) := by decide +kernel
theorem dX5_restOf_5 : decode cX5_restOf 5 = .ok (.iload_n 0, 1) := by decide +kernel
theorem dX5_restOf_6 : decode cX5_restOf 6 = .ok (.if_icmp .ge 15, 3) := by decide +kernel
theorem dX5_restOf_9 : decode cX5_restOf 9 = .ok (.iconst 2, 1) := by decide +kernel
theorem dX5_restOf_10 : decode cX5_restOf 10 = .ok (.iload_n 2, 1) := by decide +kernel
theorem dX5_restOf_11 : decode cX5_restOf 11 = .ok (.imul, 1) := by decide +kernel
theorem dX5_restOf_12 : decode cX5_restOf 12 = .ok (.iload_n 1, 1) := by decide +kernel
theorem dX5_restOf_13 : decode cX5_restOf 13 = .ok (.irem, 1) := by decide +kernel
theorem dX5_restOf_14 : decode cX5_restOf 14 = .ok (.istore_n 2, 1) := by decide +kernel
theorem dX5_restOf_15 : decode cX5_restOf 15 = .ok (.iinc 3 1, 3) := by decide +kernel
theorem dX5_restOf_18 : decode cX5_restOf 18 = .ok (.goto (-14), 3) := by decide +kernel
theorem dX5_restOf_21 : decode cX5_restOf 21 = .ok (.iload_n 2, 1) := by decide +kernel
theorem dX5_restOf_22 : decode cX5_restOf 22 = .ok (.ireturn, 1) := by decide +kernel
theorem dX5_holds_0 : decode cX5_holds 0 = .ok (.aload_n 0, 1) := by decide +kernel
theorem dX5_holds_1 : decode cX5_holds 1 = .ok (.iload_n 3, 1) := by decide +kernel
theorem dX5_holds_2 : decode cX5_holds 2 = .ok (.iload 5, 2) := by decide +kernel
theorem dX5_holds_4 : decode cX5_holds 4 = .ok (.bipush 60, 2) := by decide +kernel
theorem dX5_holds_6 : decode cX5_holds 6 = .ok (.invokevirtual 105, 3) := by decide +kernel
theorem dX5_holds_9 : decode cX5_holds 9 = .ok (.aload_n 0, 1) := by decide +kernel
theorem dX5_holds_10 : decode cX5_holds 10 = .ok (.iload_n 1, 1) := by decide +kernel
theorem dX5_holds_11 : decode cX5_holds 11 = .ok (.iload 4, 2) := by decide +kernel
theorem dX5_holds_13 : decode cX5_holds 13 = .ok (.iload 5, 2) := by decide +kernel
theorem dX5_holds_15 : decode cX5_holds 15 = .ok (.invokestatic 132, 3) := by decide +kernel
theorem dX5_holds_18 : decode cX5_holds 18 = .ok (.bipush 61, 2) := by decide +kernel
theorem dX5_holds_20 : decode cX5_holds 20 = .ok (.invokevirtual 105, 3) := by decide +kernel
theorem dX5_holds_23 : decode cX5_holds 23 = .ok (.aload_n 0, 1) := by decide +kernel
theorem dX5_holds_24 : decode cX5_holds 24 = .ok (.bipush 60, 2) := by decide +kernel
theorem dX5_holds_26 : decode cX5_holds 26 = .ok (.bipush 61, 2) := by decide +kernel
theorem dX5_holds_28 : decode cX5_holds 28 = .ok (.bipush 60, 2) := by decide +kernel
theorem dX5_holds_30 : decode cX5_holds 30 = .ok (.invokevirtual 69, 3) := by decide +kernel
theorem dX5_holds_33 : decode cX5_holds 33 = .ok (.aload_n 0, 1) := by decide +kernel
theorem dX5_holds_34 : decode cX5_holds 34 = .ok (.bipush 60, 2) := by decide +kernel
theorem dX5_holds_36 : decode cX5_holds 36 = .ok (.iload_n 2, 1) := by decide +kernel
theorem dX5_holds_37 : decode cX5_holds 37 = .ok (.invokevirtual 135, 3) := by decide +kernel
theorem dX5_holds_40 : decode cX5_holds 40 = .ok (.ireturn, 1) := by decide +kernel
theorem dX5_verify_0 : decode cX5_verify 0 = .ok (.aload_n 0, 1) := by decide +kernel
theorem dX5_verify_1 : decode cX5_verify 1 = .ok (.aload_n 0, 1) := by decide +kernel
theorem dX5_verify_2 : decode cX5_verify 2 = .ok (.invokevirtual 101, 3) := by decide +kernel
theorem dX5_verify_5 : decode cX5_verify 5 = .ok (.ifCond .ne 7, 3) := by decide +kernel
theorem dX5_verify_8 : decode cX5_verify 8 = .ok (.iconst 1, 1) := by decide +kernel
theorem dX5_verify_9 : decode cX5_verify 9 = .ok (.goto 20, 3) := by decide +kernel
theorem dX5_verify_12 : decode cX5_verify 12 = .ok (.iload_n 1, 1) := by decide +kernel
theorem dX5_verify_13 : decode cX5_verify 13 = .ok (.ifCond .lt 11, 3) := by decide +kernel
theorem dX5_verify_16 : decode cX5_verify 16 = .ok (.iload_n 1, 1) := by decide +kernel
theorem dX5_verify_17 : decode cX5_verify 17 = .ok (.aload_n 0, 1) := by decide +kernel
theorem dX5_verify_18 : decode cX5_verify 18 = .ok (.getfield 94, 3) := by decide +kernel
theorem dX5_verify_21 : decode cX5_verify 21 = .ok (.if_icmp .lt 7, 3) := by decide +kernel
theorem dX5_verify_24 : decode cX5_verify 24 = .ok (.iconst 2, 1) := by decide +kernel
theorem dX5_verify_25 : decode cX5_verify 25 = .ok (.goto 4, 3) := by decide +kernel
theorem dX5_verify_28 : decode cX5_verify 28 = .ok (.iconst 0, 1) := by decide +kernel
theorem dX5_verify_29 : decode cX5_verify 29 = .ok (.putfield 27, 3) := by decide +kernel
theorem dX5_verify_32 : decode cX5_verify 32 = .ok (.aload_n 0, 1) := by decide +kernel
theorem dX5_verify_33 : decode cX5_verify 33 = .ok (.getfield 27, 3) := by decide +kernel
theorem dX5_verify_36 : decode cX5_verify 36 = .ok (.ifCond .le 5, 3) := by decide +kernel
theorem dX5_verify_39 : decode cX5_verify 39 = .ok (.iconst 0, 1) := by decide +kernel
theorem dX5_verify_40 : decode cX5_verify 40 = .ok (.ireturn, 1) := by decide +kernel
theorem dX5_verify_41 : decode cX5_verify 41 = .ok (.bipush 6, 2) := by decide +kernel
theorem dX5_verify_43 : decode cX5_verify 43 = .ok (.iconst 3, 1) := by decide +kernel
theorem dX5_verify_44 : decode cX5_verify 44 = .ok (.iload_n 1, 1) := by decide +kernel
theorem dX5_verify_45 : decode cX5_verify 45 = .ok (.imul, 1) := by decide +kernel
theorem dX5_verify_46 : decode cX5_verify 46 = .ok (.iadd, 1) := by decide +kernel
theorem dX5_verify_47 : decode cX5_verify 47 = .ok (.istore_n 2, 1) := by decide +kernel
theorem dX5_verify_48 : decode cX5_verify 48 = .ok (.aload_n 0, 1) := by decide +kernel
theorem dX5_verify_49 : decode cX5_verify 49 = .ok (.bipush 55, 2) := by decide +kernel
theorem dX5_verify_51 : decode cX5_verify 51 = .ok (.aload_n 0, 1) := by decide +kernel
theorem dX5_verify_52 : decode cX5_verify 52 = .ok (.getfield 23, 3) := by decide +kernel
theorem dX5_verify_55 : decode cX5_verify 55 = .ok (.iconst 3, 1) := by decide +kernel
theorem dX5_verify_56 : decode cX5_verify 56 = .ok (.iload_n 1, 1) := by decide +kernel
theorem dX5_verify_57 : decode cX5_verify 57 = .ok (.imul, 1) := by decide +kernel
theorem dX5_verify_58 : decode cX5_verify 58 = .ok (.iconst 1, 1) := by decide +kernel
theorem dX5_verify_59 : decode cX5_verify 59 = .ok (.iadd, 1) := by decide +kernel
theorem dX5_verify_60 : decode cX5_verify 60 = .ok (.iaload, 1) := by decide +kernel
theorem dX5_verify_61 : decode cX5_verify 61 = .ok (.bipush 60, 2) := by decide +kernel
theorem dX5_verify_63 : decode cX5_verify 63 = .ok (.invokevirtual 105, 3) := by decide +kernel
theorem dX5_verify_66 : decode cX5_verify 66 = .ok (.aload_n 0, 1) := by decide +kernel
theorem dX5_verify_67 : decode cX5_verify 67 = .ok (.bipush 60, 2) := by decide +kernel
theorem dX5_verify_69 : decode cX5_verify 69 = .ok (.iload_n 2, 1) := by decide +kernel
theorem dX5_verify_70 : decode cX5_verify 70 = .ok (.invokevirtual 135, 3) := by decide +kernel
theorem dX5_verify_73 : decode cX5_verify 73 = .ok (.ifCond .eq 39, 3) := by decide +kernel
theorem dX5_verify_76 : decode cX5_verify 76 = .ok (.aload_n 0, 1) := by decide +kernel
theorem dX5_verify_77 : decode cX5_verify 77 = .ok (.iload_n 2, 1) := by decide +kernel
theorem dX5_verify_78 : decode cX5_verify 78 = .ok (.iload_n 2, 1) := by decide +kernel
theorem dX5_verify_79 : decode cX5_verify 79 = .ok (.iconst 1, 1) := by decide +kernel
theorem dX5_verify_80 : decode cX5_verify 80 = .ok (.iadd, 1) := by decide +kernel
theorem dX5_verify_81 : decode cX5_verify 81 = .ok (.iload_n 2, 1) := by decide +kernel
theorem dX5_verify_82 : decode cX5_verify 82 = .ok (.iconst 2, 1) := by decide +kernel
theorem dX5_verify_83 : decode cX5_verify 83 = .ok (.iadd, 1) := by decide +kernel
theorem dX5_verify_84 : decode cX5_verify 84 = .ok (.aload_n 0, 1) := by decide +kernel
theorem dX5_verify_85 : decode cX5_verify 85 = .ok (.getfield 23, 3) := by decide +kernel
theorem dX5_verify_88 : decode cX5_verify 88 = .ok (.iconst 3, 1) := by decide +kernel
theorem dX5_verify_89 : decode cX5_verify 89 = .ok (.iload_n 1, 1) := by decide +kernel
theorem dX5_verify_90 : decode cX5_verify 90 = .ok (.imul, 1) := by decide +kernel
theorem dX5_verify_91 : decode cX5_verify 91 = .ok (.iaload, 1) := by decide +kernel
theorem dX5_verify_92 : decode cX5_verify 92 = .ok (.aload_n 0, 1) := by decide +kernel
theorem dX5_verify_93 : decode cX5_verify 93 = .ok (.getfield 23, 3) := by decide +kernel
theorem dX5_verify_96 : decode cX5_verify 96 = .ok (.iconst 3, 1) := by decide +kernel
theorem dX5_verify_97 : decode cX5_verify 97 = .ok (.iload_n 1, 1) := by decide +kernel
theorem dX5_verify_98 : decode cX5_verify 98 = .ok (.imul, 1) := by decide +kernel
theorem dX5_verify_99 : decode cX5_verify 99 = .ok (.iconst 2, 1) := by decide +kernel
theorem dX5_verify_100 : decode cX5_verify 100 = .ok (.iadd, 1) := by decide +kernel
theorem dX5_verify_101 : decode cX5_verify 101 = .ok (.iaload, 1) := by decide +kernel
theorem dX5_verify_102 : decode cX5_verify 102 = .ok (.invokevirtual 139, 3) := by decide +kernel
theorem dX5_verify_105 : decode cX5_verify 105 = .ok (.ifCond .eq 7, 3) := by decide +kernel
theorem dX5_verify_108 : decode cX5_verify 108 = .ok (.iconst 1, 1) := by decide +kernel
theorem dX5_verify_109 : decode cX5_verify 109 = .ok (.goto 4, 3) := by decide +kernel
theorem dX5_verify_112 : decode cX5_verify 112 = .ok (.iconst 0, 1) := by decide +kernel
theorem dX5_verify_113 : decode cX5_verify 113 = .ok (.ireturn, 1) := by decide +kernel
theorem dX5_isPlace_0 : decode cX5_isPlace 0 = .ok (.iload_n 0, 1) := by decide +kernel
theorem dX5_isPlace_1 : decode cX5_isPlace 1 = .ok (.ifCond .lt 12, 3) := by decide +kernel
theorem dX5_isPlace_4 : decode cX5_isPlace 4 = .ok (.iload_n 0, 1) := by decide +kernel
theorem dX5_isPlace_5 : decode cX5_isPlace 5 = .ok (.iconst 3, 1) := by decide +kernel
theorem dX5_isPlace_6 : decode cX5_isPlace 6 = .ok (.if_icmp .ge 7, 3) := by decide +kernel
theorem dX5_isPlace_9 : decode cX5_isPlace 9 = .ok (.iconst 1, 1) := by decide +kernel
theorem dX5_isPlace_10 : decode cX5_isPlace 10 = .ok (.goto 4, 3) := by decide +kernel
theorem dX5_isPlace_13 : decode cX5_isPlace 13 = .ok (.iconst 0, 1) := by decide +kernel
theorem dX5_isPlace_14 : decode cX5_isPlace 14 = .ok (.ireturn, 1) := by decide +kernel
theorem dX5_put_0 : decode cX5_put 0 = .ok (.iload_n 2, 1) := by decide +kernel
theorem dX5_put_1 : decode cX5_put 1 = .ok (.ifCond .le 25, 3) := by decide +kernel
theorem dX5_put_4 : decode cX5_put 4 = .ok (.iload_n 2, 1) := by decide +kernel
theorem dX5_put_5 : decode cX5_put 5 = .ok (.ldc 143, 2) := by decide +kernel
theorem dX5_put_7 : decode cX5_put 7 = .ok (.if_icmp .gt 19, 3) := by decide +kernel
theorem dX5_put_10 : decode cX5_put 10 = .ok (.iload_n 3, 1) := by decide +kernel
theorem dX5_put_11 : decode cX5_put 11 = .ok (.ldc 144, 2) := by decide +kernel
theorem dX5_put_13 : decode cX5_put 13 = .ok (.if_icmp .lt 13, 3) := by decide +kernel
theorem dX5_put_16 : decode cX5_put 16 = .ok (.iload_n 3, 1) := by decide +kernel
theorem dX5_put_17 : decode cX5_put 17 = .ok (.ldc 143, 2) := by decide +kernel
theorem dX5_put_19 : decode cX5_put 19 = .ok (.if_icmp .gt 7, 3) := by decide +kernel
theorem dX5_put_22 : decode cX5_put 22 = .ok (.iconst 1, 1) := by decide +kernel
theorem dX5_put_23 : decode cX5_put 23 = .ok (.goto 4, 3) := by decide +kernel
theorem dX5_put_26 : decode cX5_put 26 = .ok (.iconst 0, 1) := by decide +kernel
theorem dX5_put_27 : decode cX5_put 27 = .ok (.istore 4, 2) := by decide +kernel
theorem dX5_put_29 : decode cX5_put 29 = .ok (.iload_n 3, 1) := by decide +kernel
theorem dX5_put_30 : decode cX5_put 30 = .ok (.i2l, 1) := by decide +kernel
theorem dX5_put_31 : decode cX5_put 31 = .ok (.iload_n 3, 1) := by decide +kernel
theorem dX5_put_32 : decode cX5_put 32 = .ok (.i2l, 1) := by decide +kernel
theorem dX5_put_33 : decode cX5_put 33 = .ok (.lmul, 1) := by decide +kernel
theorem dX5_put_34 : decode cX5_put 34 = .ok (.aload_n 0, 1) := by decide +kernel
theorem dX5_put_35 : decode cX5_put 35 = .ok (.getfield 90, 3) := by decide +kernel
theorem dX5_put_38 : decode cX5_put 38 = .ok (.ladd, 1) := by decide +kernel
theorem dX5_put_39 : decode cX5_put 39 = .ok (.lstore 5, 2) := by decide +kernel
theorem dX5_put_41 : decode cX5_put 41 = .ok (.iload 4, 2) := by decide +kernel
theorem dX5_put_43 : decode cX5_put 43 = .ok (.ifCond .eq 45, 3) := by decide +kernel
theorem dX5_put_46 : decode cX5_put 46 = .ok (.lload 5, 2) := by decide +kernel
theorem dX5_put_48 : decode cX5_put 48 = .ok (.ldc2_w 97, 3) := by decide +kernel
theorem dX5_put_51 : decode cX5_put 51 = .ok (.iload_n 2, 1) := by decide +kernel
theorem dX5_put_52 : decode cX5_put 52 = .ok (.i2l, 1) := by decide +kernel
theorem dX5_put_53 : decode cX5_put 53 = .ok (.lmul, 1) := by decide +kernel
theorem dX5_put_54 : decode cX5_put 54 = .ok (.lrem, 1) := by decide +kernel
theorem dX5_put_55 : decode cX5_put 55 = .ok (.lconst 0, 1) := by decide +kernel
theorem dX5_put_56 : decode cX5_put 56 = .ok (.lcmp, 1) := by decide +kernel
theorem dX5_put_57 : decode cX5_put 57 = .ok (.ifCond .ne 31, 3) := by decide +kernel
theorem dX5_put_60 : decode cX5_put 60 = .ok (.iload_n 2, 1) := by decide +kernel
theorem dX5_put_61 : decode cX5_put 61 = .ok (.i2l, 1) := by decide +kernel
theorem dX5_put_62 : decode cX5_put 62 = .ok (.iload_n 3, 1) := by decide +kernel
theorem dX5_put_63 : decode cX5_put 63 = .ok (.i2l, 1) := by decide +kernel
theorem dX5_put_64 : decode cX5_put 64 = .ok (.invokestatic 48, 3) := by decide +kernel
theorem dX5_put_67 : decode cX5_put 67 = .ok (.lload 5, 2) := by decide +kernel
theorem dX5_put_69 : decode cX5_put 69 = .ok (.ldc2_w 97, 3) := by decide +kernel
theorem dX5_put_72 : decode cX5_put 72 = .ok (.iload_n 2, 1) := by decide +kernel
theorem dX5_put_73 : decode cX5_put 73 = .ok (.i2l, 1) := by decide +kernel
theorem dX5_put_74 : decode cX5_put 74 = .ok (.lmul, 1) := by decide +kernel
theorem dX5_put_75 : decode cX5_put 75 = .ok (.ldiv, 1) := by decide +kernel
theorem dX5_put_76 : decode cX5_put 76 = .ok (.invokestatic 48, 3) := by decide +kernel
theorem dX5_put_79 : decode cX5_put 79 = .ok (.lconst 1, 1) := by decide +kernel
theorem dX5_put_80 : decode cX5_put 80 = .ok (.lcmp, 1) := by decide +kernel
theorem dX5_put_81 : decode cX5_put 81 = .ok (.ifCond .ne 7, 3) := by decide +kernel
theorem dX5_put_84 : decode cX5_put 84 = .ok (.iconst 1, 1) := by decide +kernel
theorem dX5_put_85 : decode cX5_put 85 = .ok (.goto 4, 3) := by decide +kernel
theorem dX5_put_88 : decode cX5_put 88 = .ok (.iconst 0, 1) := by decide +kernel
theorem dX5_put_89 : decode cX5_put 89 = .ok (.istore 7, 2) := by decide +kernel
theorem dX5_put_91 : decode cX5_put 91 = .ok (.aload_n 0, 1) := by decide +kernel
theorem dX5_put_92 : decode cX5_put 92 = .ok (.aload_n 0, 1) := by decide +kernel
theorem dX5_put_93 : decode cX5_put 93 = .ok (.invokevirtual 101, 3) := by decide +kernel
theorem dX5_put_96 : decode cX5_put 96 = .ok (.ifCond .ne 7, 3) := by decide +kernel
theorem dX5_put_99 : decode cX5_put 99 = .ok (.iconst 1, 1) := by decide +kernel
theorem dX5_put_100 : decode cX5_put 100 = .ok (.goto 24, 3) := by decide +kernel
theorem dX5_put_103 : decode cX5_put 103 = .ok (.iload_n 1, 1) := by decide +kernel
theorem dX5_put_104 : decode cX5_put 104 = .ok (.invokestatic 145, 3) := by decide +kernel
theorem dX5_put_107 : decode cX5_put 107 = .ok (.ifCond .ne 7, 3) := by decide +kernel
theorem dX5_put_110 : decode cX5_put 110 = .ok (.iconst 2, 1) := by decide +kernel
theorem dX5_put_111 : decode cX5_put 111 = .ok (.goto 13, 3) := by decide +kernel
theorem dX5_put_114 : decode cX5_put 114 = .ok (.iload 7, 2) := by decide +kernel
theorem dX5_put_116 : decode cX5_put 116 = .ok (.ifCond .ne 7, 3) := by decide +kernel
theorem dX5_put_119 : decode cX5_put 119 = .ok (.iconst 3, 1) := by decide +kernel
theorem dX5_put_120 : decode cX5_put 120 = .ok (.goto 4, 3) := by decide +kernel
theorem dX5_put_123 : decode cX5_put 123 = .ok (.iconst 0, 1) := by decide +kernel
theorem dX5_put_124 : decode cX5_put 124 = .ok (.putfield 27, 3) := by decide +kernel
theorem dX5_put_127 : decode cX5_put 127 = .ok (.aload_n 0, 1) := by decide +kernel
theorem dX5_put_128 : decode cX5_put 128 = .ok (.getfield 27, 3) := by decide +kernel
theorem dX5_put_131 : decode cX5_put 131 = .ok (.ifCond .le 4, 3) := by decide +kernel
theorem dX5_put_134 : decode cX5_put 134 = .ok (.return_, 1) := by decide +kernel
theorem dX5_put_135 : decode cX5_put 135 = .ok (.aload_n 0, 1) := by decide +kernel
theorem dX5_put_136 : decode cX5_put 136 = .ok (.iload_n 1, 1) := by decide +kernel
theorem dX5_put_137 : decode cX5_put 137 = .ok (.iload_n 2, 1) := by decide +kernel
theorem dX5_put_138 : decode cX5_put 138 = .ok (.i2l, 1) := by decide +kernel
theorem dX5_put_139 : decode cX5_put 139 = .ok (.iload_n 3, 1) := by decide +kernel
theorem dX5_put_140 : decode cX5_put 140 = .ok (.i2l, 1) := by decide +kernel
theorem dX5_put_141 : decode cX5_put 141 = .ok (.lload 5, 2) := by decide +kernel
theorem dX5_put_143 : decode cX5_put 143 = .ok (.ldc2_w 97, 3) := by decide +kernel
theorem dX5_put_146 : decode cX5_put 146 = .ok (.iload_n 2, 1) := by decide +kernel
theorem dX5_put_147 : decode cX5_put 147 = .ok (.i2l, 1) := by decide +kernel
theorem dX5_put_148 : decode cX5_put 148 = .ok (.lmul, 1) := by decide +kernel
theorem dX5_put_149 : decode cX5_put 149 = .ok (.ldiv, 1) := by decide +kernel
theorem dX5_put_150 : decode cX5_put 150 = .ok (.invokevirtual 35, 3) := by decide +kernel
theorem dX5_put_153 : decode cX5_put 153 = .ok (.aload_n 0, 1) := by decide +kernel
theorem dX5_put_154 : decode cX5_put 154 = .ok (.getfield 19, 3) := by decide +kernel
theorem dX5_put_157 : decode cX5_put 157 = .ok (.iload_n 1, 1) := by decide +kernel
theorem dX5_put_158 : decode cX5_put 158 = .ok (.iconst 1, 1) := by decide +kernel
theorem dX5_put_159 : decode cX5_put 159 = .ok (.bastore, 1) := by decide +kernel
theorem dX5_put_160 : decode cX5_put 160 = .ok (.return_, 1) := by decide +kernel
theorem dX5_buffer_0 : decode cX5_buffer 0 = .ok (.aload_n 0, 1) := by decide +kernel
theorem dX5_buffer_1 : decode cX5_buffer 1 = .ok (.aload_n 0, 1) := by decide +kernel
theorem dX5_buffer_2 : decode cX5_buffer 2 = .ok (.invokevirtual 101, 3) := by decide +kernel
theorem dX5_buffer_5 : decode cX5_buffer 5 = .ok (.ifCond .ne 7, 3) := by decide +kernel
theorem dX5_buffer_8 : decode cX5_buffer 8 = .ok (.iconst 1, 1) := by decide +kernel
theorem dX5_buffer_9 : decode cX5_buffer 9 = .ok (.goto 35, 3) := by decide +kernel
theorem dX5_buffer_12 : decode cX5_buffer 12 = .ok (.iload_n 1, 1) := by decide +kernel
theorem dX5_buffer_13 : decode cX5_buffer 13 = .ok (.invokestatic 145, 3) := by decide +kernel
theorem dX5_buffer_16 : decode cX5_buffer 16 = .ok (.ifCond .eq 10, 3) := by decide +kernel
theorem dX5_buffer_19 : decode cX5_buffer 19 = .ok (.iload_n 2, 1) := by decide +kernel
theorem dX5_buffer_20 : decode cX5_buffer 20 = .ok (.invokestatic 145, 3) := by decide +kernel
theorem dX5_buffer_23 : decode cX5_buffer 23 = .ok (.ifCond .ne 7, 3) := by decide +kernel
theorem dX5_buffer_26 : decode cX5_buffer 26 = .ok (.iconst 2, 1) := by decide +kernel
theorem dX5_buffer_27 : decode cX5_buffer 27 = .ok (.goto 17, 3) := by decide +kernel
theorem dX5_buffer_30 : decode cX5_buffer 30 = .ok (.aload_n 0, 1) := by decide +kernel
theorem dX5_buffer_31 : decode cX5_buffer 31 = .ok (.getfield 19, 3) := by decide +kernel
theorem dX5_buffer_34 : decode cX5_buffer 34 = .ok (.iload_n 1, 1) := by decide +kernel
theorem dX5_buffer_35 : decode cX5_buffer 35 = .ok (.baload, 1) := by decide +kernel
theorem dX5_buffer_36 : decode cX5_buffer 36 = .ok (.ifCond .ne 7, 3) := by decide +kernel
theorem dX5_buffer_39 : decode cX5_buffer 39 = .ok (.iconst 3, 1) := by decide +kernel
theorem dX5_buffer_40 : decode cX5_buffer 40 = .ok (.goto 4, 3) := by decide +kernel
theorem dX5_buffer_43 : decode cX5_buffer 43 = .ok (.iconst 0, 1) := by decide +kernel
theorem dX5_buffer_44 : decode cX5_buffer 44 = .ok (.putfield 27, 3) := by decide +kernel
theorem dX5_buffer_47 : decode cX5_buffer 47 = .ok (.aload_n 0, 1) := by decide +kernel
theorem dX5_buffer_48 : decode cX5_buffer 48 = .ok (.getfield 27, 3) := by decide +kernel
theorem dX5_buffer_51 : decode cX5_buffer 51 = .ok (.ifCond .le 7, 3) := by decide +kernel
theorem dX5_buffer_54 : decode cX5_buffer 54 = .ok (.lconst 0, 1) := by decide +kernel
theorem dX5_buffer_55 : decode cX5_buffer 55 = .ok (.goto 9, 3) := by decide +kernel
theorem dX5_buffer_58 : decode cX5_buffer 58 = .ok (.aload_n 0, 1) := by decide +kernel
theorem dX5_buffer_59 : decode cX5_buffer 59 = .ok (.iload_n 1, 1) := by decide +kernel
theorem dX5_buffer_60 : decode cX5_buffer 60 = .ok (.iload_n 2, 1) := by decide +kernel
theorem dX5_buffer_61 : decode cX5_buffer 61 = .ok (.invokevirtual 128, 3) := by decide +kernel
theorem dX5_buffer_64 : decode cX5_buffer 64 = .ok (.lreturn, 1) := by decide +kernel
theorem dX5_reduce_0 : decode cX5_reduce 0 = .ok (.aload_n 0, 1) := by decide +kernel
theorem dX5_reduce_1 : decode cX5_reduce 1 = .ok (.aload_n 0, 1) := by decide +kernel
theorem dX5_reduce_2 : decode cX5_reduce 2 = .ok (.invokevirtual 101, 3) := by decide +kernel
theorem dX5_reduce_5 : decode cX5_reduce 5 = .ok (.ifCond .ne 7, 3) := by decide +kernel
theorem dX5_reduce_8 : decode cX5_reduce 8 = .ok (.iconst 1, 1) := by decide +kernel
theorem dX5_reduce_9 : decode cX5_reduce 9 = .ok (.goto 35, 3) := by decide +kernel
theorem dX5_reduce_12 : decode cX5_reduce 12 = .ok (.iload_n 1, 1) := by decide +kernel
theorem dX5_reduce_13 : decode cX5_reduce 13 = .ok (.invokestatic 145, 3) := by decide +kernel
theorem dX5_reduce_16 : decode cX5_reduce 16 = .ok (.ifCond .eq 10, 3) := by decide +kernel
theorem dX5_reduce_19 : decode cX5_reduce 19 = .ok (.iload_n 2, 1) := by decide +kernel
theorem dX5_reduce_20 : decode cX5_reduce 20 = .ok (.invokestatic 145, 3) := by decide +kernel
theorem dX5_reduce_23 : decode cX5_reduce 23 = .ok (.ifCond .ne 7, 3) := by decide +kernel
theorem dX5_reduce_26 : decode cX5_reduce 26 = .ok (.iconst 2, 1) := by decide +kernel
theorem dX5_reduce_27 : decode cX5_reduce 27 = .ok (.goto 17, 3) := by decide +kernel
theorem dX5_reduce_30 : decode cX5_reduce 30 = .ok (.aload_n 0, 1) := by decide +kernel
theorem dX5_reduce_31 : decode cX5_reduce 31 = .ok (.getfield 19, 3) := by decide +kernel
theorem dX5_reduce_34 : decode cX5_reduce 34 = .ok (.iload_n 1, 1) := by decide +kernel
theorem dX5_reduce_35 : decode cX5_reduce 35 = .ok (.baload, 1) := by decide +kernel
theorem dX5_reduce_36 : decode cX5_reduce 36 = .ok (.ifCond .ne 7, 3) := by decide +kernel
theorem dX5_reduce_39 : decode cX5_reduce 39 = .ok (.iconst 3, 1) := by decide +kernel
theorem dX5_reduce_40 : decode cX5_reduce 40 = .ok (.goto 4, 3) := by decide +kernel
theorem dX5_reduce_43 : decode cX5_reduce 43 = .ok (.iconst 0, 1) := by decide +kernel
theorem dX5_reduce_44 : decode cX5_reduce 44 = .ok (.putfield 27, 3) := by decide +kernel
theorem dX5_reduce_47 : decode cX5_reduce 47 = .ok (.aload_n 0, 1) := by decide +kernel
theorem dX5_reduce_48 : decode cX5_reduce 48 = .ok (.getfield 27, 3) := by decide +kernel
theorem dX5_reduce_51 : decode cX5_reduce 51 = .ok (.ifCond .le 4, 3) := by decide +kernel
theorem dX5_reduce_54 : decode cX5_reduce 54 = .ok (.return_, 1) := by decide +kernel
theorem dX5_reduce_55 : decode cX5_reduce 55 = .ok (.aload_n 0, 1) := by decide +kernel
theorem dX5_reduce_56 : decode cX5_reduce 56 = .ok (.iload_n 1, 1) := by decide +kernel
theorem dX5_reduce_57 : decode cX5_reduce 57 = .ok (.iload_n 2, 1) := by decide +kernel
theorem dX5_reduce_58 : decode cX5_reduce 58 = .ok (.invokevirtual 62, 3) := by decide +kernel
theorem dX5_reduce_61 : decode cX5_reduce 61 = .ok (.aload_n 0, 1) := by decide +kernel
theorem dX5_reduce_62 : decode cX5_reduce 62 = .ok (.iload_n 2, 1) := by decide +kernel
theorem dX5_reduce_63 : decode cX5_reduce 63 = .ok (.invokevirtual 58, 3) := by decide +kernel
theorem dX5_reduce_66 : decode cX5_reduce 66 = .ok (.aload_n 0, 1) := by decide +kernel
theorem dX5_reduce_67 : decode cX5_reduce 67 = .ok (.getfield 19, 3) := by decide +kernel
theorem dX5_reduce_70 : decode cX5_reduce 70 = .ok (.iload_n 2, 1) := by decide +kernel
theorem dX5_reduce_71 : decode cX5_reduce 71 = .ok (.iconst 1, 1) := by decide +kernel
theorem dX5_reduce_72 : decode cX5_reduce 72 = .ok (.bastore, 1) := by decide +kernel
theorem dX5_reduce_73 : decode cX5_reduce 73 = .ok (.return_, 1) := by decide +kernel
theorem dX5_multiply_0 : decode cX5_multiply 0 = .ok (.aload_n 0, 1) := by decide +kernel
theorem dX5_multiply_1 : decode cX5_multiply 1 = .ok (.aload_n 0, 1) := by decide +kernel
theorem dX5_multiply_2 : decode cX5_multiply 2 = .ok (.invokevirtual 101, 3) := by decide +kernel
theorem dX5_multiply_5 : decode cX5_multiply 5 = .ok (.ifCond .ne 7, 3) := by decide +kernel
theorem dX5_multiply_8 : decode cX5_multiply 8 = .ok (.iconst 1, 1) := by decide +kernel
theorem dX5_multiply_9 : decode cX5_multiply 9 = .ok (.goto 51, 3) := by decide +kernel
theorem dX5_multiply_12 : decode cX5_multiply 12 = .ok (.iload_n 1, 1) := by decide +kernel
theorem dX5_multiply_13 : decode cX5_multiply 13 = .ok (.invokestatic 145, 3) := by decide +kernel
theorem dX5_multiply_16 : decode cX5_multiply 16 = .ok (.ifCond .eq 17, 3) := by decide +kernel
theorem dX5_multiply_19 : decode cX5_multiply 19 = .ok (.iload_n 2, 1) := by decide +kernel
theorem dX5_multiply_20 : decode cX5_multiply 20 = .ok (.invokestatic 145, 3) := by decide +kernel
theorem dX5_multiply_23 : decode cX5_multiply 23 = .ok (.ifCond .eq 10, 3) := by decide +kernel
theorem dX5_multiply_26 : decode cX5_multiply 26 = .ok (.iload_n 3, 1) := by decide +kernel
theorem dX5_multiply_27 : decode cX5_multiply 27 = .ok (.invokestatic 145, 3) := by decide +kernel
theorem dX5_multiply_30 : decode cX5_multiply 30 = .ok (.ifCond .ne 7, 3) := by decide +kernel
theorem dX5_multiply_33 : decode cX5_multiply 33 = .ok (.iconst 2, 1) := by decide +kernel
theorem dX5_multiply_34 : decode cX5_multiply 34 = .ok (.goto 26, 3) := by decide +kernel
theorem dX5_multiply_37 : decode cX5_multiply 37 = .ok (.aload_n 0, 1) := by decide +kernel
theorem dX5_multiply_38 : decode cX5_multiply 38 = .ok (.getfield 19, 3) := by decide +kernel
theorem dX5_multiply_41 : decode cX5_multiply 41 = .ok (.iload_n 1, 1) := by decide +kernel
theorem dX5_multiply_42 : decode cX5_multiply 42 = .ok (.baload, 1) := by decide +kernel
theorem dX5_multiply_43 : decode cX5_multiply 43 = .ok (.ifCond .eq 12, 3) := by decide +kernel
theorem dX5_multiply_46 : decode cX5_multiply 46 = .ok (.aload_n 0, 1) := by decide +kernel
theorem dX5_multiply_47 : decode cX5_multiply 47 = .ok (.getfield 19, 3) := by decide +kernel
theorem dX5_multiply_50 : decode cX5_multiply 50 = .ok (.iload_n 2, 1) := by decide +kernel
theorem dX5_multiply_51 : decode cX5_multiply 51 = .ok (.baload, 1) := by decide +kernel
theorem dX5_multiply_52 : decode cX5_multiply 52 = .ok (.ifCond .ne 7, 3) := by decide +kernel
theorem dX5_multiply_55 : decode cX5_multiply 55 = .ok (.iconst 3, 1) := by decide +kernel
theorem dX5_multiply_56 : decode cX5_multiply 56 = .ok (.goto 4, 3) := by decide +kernel
theorem dX5_multiply_59 : decode cX5_multiply 59 = .ok (.iconst 0, 1) := by decide +kernel
theorem dX5_multiply_60 : decode cX5_multiply 60 = .ok (.putfield 27, 3) := by decide +kernel
theorem dX5_multiply_63 : decode cX5_multiply 63 = .ok (.aload_n 0, 1) := by decide +kernel
theorem dX5_multiply_64 : decode cX5_multiply 64 = .ok (.getfield 27, 3) := by decide +kernel
theorem dX5_multiply_67 : decode cX5_multiply 67 = .ok (.ifCond .le 4, 3) := by decide +kernel
theorem dX5_multiply_70 : decode cX5_multiply 70 = .ok (.return_, 1) := by decide +kernel
theorem dX5_multiply_71 : decode cX5_multiply 71 = .ok (.aload_n 0, 1) := by decide +kernel
theorem dX5_multiply_72 : decode cX5_multiply 72 = .ok (.iload_n 1, 1) := by decide +kernel
theorem dX5_multiply_73 : decode cX5_multiply 73 = .ok (.iload_n 2, 1) := by decide +kernel
theorem dX5_multiply_74 : decode cX5_multiply 74 = .ok (.iload_n 3, 1) := by decide +kernel
theorem dX5_multiply_75 : decode cX5_multiply 75 = .ok (.invokevirtual 69, 3) := by decide +kernel
theorem dX5_multiply_78 : decode cX5_multiply 78 = .ok (.aload_n 0, 1) := by decide +kernel
theorem dX5_multiply_79 : decode cX5_multiply 79 = .ok (.getfield 19, 3) := by decide +kernel
theorem dX5_multiply_82 : decode cX5_multiply 82 = .ok (.iload_n 3, 1) := by decide +kernel
theorem dX5_multiply_83 : decode cX5_multiply 83 = .ok (.iconst 1, 1) := by decide +kernel
theorem dX5_multiply_84 : decode cX5_multiply 84 = .ok (.bastore, 1) := by decide +kernel
theorem dX5_multiply_85 : decode cX5_multiply 85 = .ok (.return_, 1) := by decide +kernel
theorem dX5_raise_0 : decode cX5_raise 0 = .ok (.aload_n 0, 1) := by decide +kernel
theorem dX5_raise_1 : decode cX5_raise 1 = .ok (.aload_n 0, 1) := by decide +kernel
theorem dX5_raise_2 : decode cX5_raise 2 = .ok (.invokevirtual 101, 3) := by decide +kernel
theorem dX5_raise_5 : decode cX5_raise 5 = .ok (.ifCond .ne 7, 3) := by decide +kernel
theorem dX5_raise_8 : decode cX5_raise 8 = .ok (.iconst 1, 1) := by decide +kernel
theorem dX5_raise_9 : decode cX5_raise 9 = .ok (.goto 43, 3) := by decide +kernel
theorem dX5_raise_12 : decode cX5_raise 12 = .ok (.iload_n 1, 1) := by decide +kernel
theorem dX5_raise_13 : decode cX5_raise 13 = .ok (.invokestatic 145, 3) := by decide +kernel
theorem dX5_raise_16 : decode cX5_raise 16 = .ok (.ifCond .eq 10, 3) := by decide +kernel
theorem dX5_raise_19 : decode cX5_raise 19 = .ok (.iload_n 3, 1) := by decide +kernel
theorem dX5_raise_20 : decode cX5_raise 20 = .ok (.invokestatic 145, 3) := by decide +kernel
theorem dX5_raise_23 : decode cX5_raise 23 = .ok (.ifCond .ne 7, 3) := by decide +kernel
theorem dX5_raise_26 : decode cX5_raise 26 = .ok (.iconst 2, 1) := by decide +kernel
theorem dX5_raise_27 : decode cX5_raise 27 = .ok (.goto 25, 3) := by decide +kernel
theorem dX5_raise_30 : decode cX5_raise 30 = .ok (.iload_n 2, 1) := by decide +kernel
theorem dX5_raise_31 : decode cX5_raise 31 = .ok (.ifCond .ge 7, 3) := by decide +kernel
theorem dX5_raise_34 : decode cX5_raise 34 = .ok (.iconst 3, 1) := by decide +kernel
theorem dX5_raise_35 : decode cX5_raise 35 = .ok (.goto 17, 3) := by decide +kernel
theorem dX5_raise_38 : decode cX5_raise 38 = .ok (.aload_n 0, 1) := by decide +kernel
theorem dX5_raise_39 : decode cX5_raise 39 = .ok (.getfield 19, 3) := by decide +kernel
theorem dX5_raise_42 : decode cX5_raise 42 = .ok (.iload_n 1, 1) := by decide +kernel
theorem dX5_raise_43 : decode cX5_raise 43 = .ok (.baload, 1) := by decide +kernel
theorem dX5_raise_44 : decode cX5_raise 44 = .ok (.ifCond .ne 7, 3) := by decide +kernel
theorem dX5_raise_47 : decode cX5_raise 47 = .ok (.iconst 4, 1) := by decide +kernel
theorem dX5_raise_48 : decode cX5_raise 48 = .ok (.goto 4, 3) := by decide +kernel
theorem dX5_raise_51 : decode cX5_raise 51 = .ok (.iconst 0, 1) := by decide +kernel
theorem dX5_raise_52 : decode cX5_raise 52 = .ok (.putfield 27, 3) := by decide +kernel
theorem dX5_raise_55 : decode cX5_raise 55 = .ok (.aload_n 0, 1) := by decide +kernel
theorem dX5_raise_56 : decode cX5_raise 56 = .ok (.getfield 27, 3) := by decide +kernel
theorem dX5_raise_59 : decode cX5_raise 59 = .ok (.ifCond .le 4, 3) := by decide +kernel
theorem dX5_raise_62 : decode cX5_raise 62 = .ok (.return_, 1) := by decide +kernel
theorem dX5_raise_63 : decode cX5_raise 63 = .ok (.aload_n 0, 1) := by decide +kernel
theorem dX5_raise_64 : decode cX5_raise 64 = .ok (.iload_n 1, 1) := by decide +kernel
theorem dX5_raise_65 : decode cX5_raise 65 = .ok (.iload_n 2, 1) := by decide +kernel
theorem dX5_raise_66 : decode cX5_raise 66 = .ok (.iload_n 3, 1) := by decide +kernel
theorem dX5_raise_67 : decode cX5_raise 67 = .ok (.invokevirtual 105, 3) := by decide +kernel
theorem dX5_raise_70 : decode cX5_raise 70 = .ok (.aload_n 0, 1) := by decide +kernel
theorem dX5_raise_71 : decode cX5_raise 71 = .ok (.getfield 19, 3) := by decide +kernel
theorem dX5_raise_74 : decode cX5_raise 74 = .ok (.iload_n 3, 1) := by decide +kernel
theorem dX5_raise_75 : decode cX5_raise 75 = .ok (.iconst 1, 1) := by decide +kernel
theorem dX5_raise_76 : decode cX5_raise 76 = .ok (.bastore, 1) := by decide +kernel
theorem dX5_raise_77 : decode cX5_raise 77 = .ok (.return_, 1) := by decide +kernel
theorem dX5_test_0 : decode cX5_test 0 = .ok (.aload_n 0, 1) := by decide +kernel
theorem dX5_test_1 : decode cX5_test 1 = .ok (.aload_n 0, 1) := by decide +kernel
theorem dX5_test_2 : decode cX5_test 2 = .ok (.invokevirtual 101, 3) := by decide +kernel
theorem dX5_test_5 : decode cX5_test 5 = .ok (.ifCond .ne 7, 3) := by decide +kernel
theorem dX5_test_8 : decode cX5_test 8 = .ok (.iconst 1, 1) := by decide +kernel
theorem dX5_test_9 : decode cX5_test 9 = .ok (.goto 51, 3) := by decide +kernel
theorem dX5_test_12 : decode cX5_test 12 = .ok (.iload_n 1, 1) := by decide +kernel
theorem dX5_test_13 : decode cX5_test 13 = .ok (.ifCond .lt 11, 3) := by decide +kernel
theorem dX5_test_16 : decode cX5_test 16 = .ok (.iload_n 1, 1) := by decide +kernel
theorem dX5_test_17 : decode cX5_test 17 = .ok (.aload_n 0, 1) := by decide +kernel
theorem dX5_test_18 : decode cX5_test 18 = .ok (.getfield 94, 3) := by decide +kernel
theorem dX5_test_21 : decode cX5_test 21 = .ok (.if_icmp .lt 7, 3) := by decide +kernel
theorem dX5_test_24 : decode cX5_test 24 = .ok (.iconst 2, 1) := by decide +kernel
theorem dX5_test_25 : decode cX5_test 25 = .ok (.goto 35, 3) := by decide +kernel
theorem dX5_test_28 : decode cX5_test 28 = .ok (.aload_n 0, 1) := by decide +kernel
theorem dX5_test_29 : decode cX5_test 29 = .ok (.getfield 19, 3) := by decide +kernel
theorem dX5_test_32 : decode cX5_test 32 = .ok (.iconst 0, 1) := by decide +kernel
theorem dX5_test_33 : decode cX5_test 33 = .ok (.baload, 1) := by decide +kernel
theorem dX5_test_34 : decode cX5_test 34 = .ok (.ifCond .eq 21, 3) := by decide +kernel
theorem dX5_test_37 : decode cX5_test 37 = .ok (.aload_n 0, 1) := by decide +kernel
theorem dX5_test_38 : decode cX5_test 38 = .ok (.getfield 19, 3) := by decide +kernel
theorem dX5_test_41 : decode cX5_test 41 = .ok (.iconst 1, 1) := by decide +kernel
theorem dX5_test_42 : decode cX5_test 42 = .ok (.baload, 1) := by decide +kernel
theorem dX5_test_43 : decode cX5_test 43 = .ok (.ifCond .eq 12, 3) := by decide +kernel
theorem dX5_test_46 : decode cX5_test 46 = .ok (.aload_n 0, 1) := by decide +kernel
theorem dX5_test_47 : decode cX5_test 47 = .ok (.getfield 19, 3) := by decide +kernel
theorem dX5_test_50 : decode cX5_test 50 = .ok (.iconst 2, 1) := by decide +kernel
theorem dX5_test_51 : decode cX5_test 51 = .ok (.baload, 1) := by decide +kernel
theorem dX5_test_52 : decode cX5_test 52 = .ok (.ifCond .ne 7, 3) := by decide +kernel
theorem dX5_test_55 : decode cX5_test 55 = .ok (.iconst 3, 1) := by decide +kernel
theorem dX5_test_56 : decode cX5_test 56 = .ok (.goto 4, 3) := by decide +kernel
theorem dX5_test_59 : decode cX5_test 59 = .ok (.iconst 0, 1) := by decide +kernel
theorem dX5_test_60 : decode cX5_test 60 = .ok (.putfield 27, 3) := by decide +kernel
theorem dX5_test_63 : decode cX5_test 63 = .ok (.aload_n 0, 1) := by decide +kernel
theorem dX5_test_64 : decode cX5_test 64 = .ok (.getfield 27, 3) := by decide +kernel
theorem dX5_test_67 : decode cX5_test 67 = .ok (.ifCond .le 5, 3) := by decide +kernel
theorem dX5_test_70 : decode cX5_test 70 = .ok (.iconst 0, 1) := by decide +kernel
theorem dX5_test_71 : decode cX5_test 71 = .ok (.ireturn, 1) := by decide +kernel
theorem dX5_test_72 : decode cX5_test 72 = .ok (.aload_n 0, 1) := by decide +kernel
theorem dX5_test_73 : decode cX5_test 73 = .ok (.iconst 0, 1) := by decide +kernel
theorem dX5_test_74 : decode cX5_test 74 = .ok (.bipush 6, 2) := by decide +kernel
theorem dX5_test_76 : decode cX5_test 76 = .ok (.iconst 3, 1) := by decide +kernel
theorem dX5_test_77 : decode cX5_test 77 = .ok (.iload_n 1, 1) := by decide +kernel
theorem dX5_test_78 : decode cX5_test 78 = .ok (.imul, 1) := by decide +kernel
theorem dX5_test_79 : decode cX5_test 79 = .ok (.iadd, 1) := by decide +kernel
theorem dX5_test_80 : decode cX5_test 80 = .ok (.invokevirtual 135, 3) := by decide +kernel
theorem dX5_test_83 : decode cX5_test 83 = .ok (.ifCond .ne 5, 3) := by decide +kernel
theorem dX5_test_86 : decode cX5_test 86 = .ok (.iconst 1, 1) := by decide +kernel
theorem dX5_test_87 : decode cX5_test 87 = .ok (.ireturn, 1) := by decide +kernel
theorem dX5_test_88 : decode cX5_test 88 = .ok (.aload_n 0, 1) := by decide +kernel
theorem dX5_test_89 : decode cX5_test 89 = .ok (.iconst 1, 1) := by decide +kernel
theorem dX5_test_90 : decode cX5_test 90 = .ok (.invokevirtual 39, 3) := by decide +kernel
theorem dX5_test_93 : decode cX5_test 93 = .ok (.ifCond .eq 11, 3) := by decide +kernel
theorem dX5_test_96 : decode cX5_test 96 = .ok (.aload_n 0, 1) := by decide +kernel
theorem dX5_test_97 : decode cX5_test 97 = .ok (.iconst 2, 1) := by decide +kernel
theorem dX5_test_98 : decode cX5_test 98 = .ok (.invokevirtual 39, 3) := by decide +kernel
theorem dX5_test_101 : decode cX5_test 101 = .ok (.ifCond .ne 5, 3) := by decide +kernel
theorem dX5_test_104 : decode cX5_test 104 = .ok (.iconst 2, 1) := by decide +kernel
theorem dX5_test_105 : decode cX5_test 105 = .ok (.ireturn, 1) := by decide +kernel
theorem dX5_test_106 : decode cX5_test 106 = .ok (.aload_n 0, 1) := by decide +kernel
theorem dX5_test_107 : decode cX5_test 107 = .ok (.getfield 23, 3) := by decide +kernel
theorem dX5_test_110 : decode cX5_test 110 = .ok (.iconst 3, 1) := by decide +kernel
theorem dX5_test_111 : decode cX5_test 111 = .ok (.iload_n 1, 1) := by decide +kernel
theorem dX5_test_112 : decode cX5_test 112 = .ok (.imul, 1) := by decide +kernel
theorem dX5_test_113 : decode cX5_test 113 = .ok (.iaload, 1) := by decide +kernel
theorem dX5_test_114 : decode cX5_test 114 = .ok (.istore_n 2, 1) := by decide +kernel
theorem dX5_test_115 : decode cX5_test 115 = .ok (.aload_n 0, 1) := by decide +kernel
theorem dX5_test_116 : decode cX5_test 116 = .ok (.iconst 0, 1) := by decide +kernel
theorem dX5_test_117 : decode cX5_test 117 = .ok (.iconst 1, 1) := by decide +kernel
theorem dX5_test_118 : decode cX5_test 118 = .ok (.iconst 2, 1) := by decide +kernel
theorem dX5_test_119 : decode cX5_test 119 = .ok (.iload_n 2, 1) := by decide +kernel
theorem dX5_test_120 : decode cX5_test 120 = .ok (.aload_n 0, 1) := by decide +kernel
theorem dX5_test_121 : decode cX5_test 121 = .ok (.iconst 0, 1) := by decide +kernel
theorem dX5_test_122 : decode cX5_test 122 = .ok (.iconst 1, 1) := by decide +kernel
theorem dX5_test_123 : decode cX5_test 123 = .ok (.iload_n 2, 1) := by decide +kernel
theorem dX5_test_124 : decode cX5_test 124 = .ok (.invokevirtual 120, 3) := by decide +kernel
theorem dX5_test_127 : decode cX5_test 127 = .ok (.invokevirtual 139, 3) := by decide +kernel
theorem dX5_test_130 : decode cX5_test 130 = .ok (.ifCond .eq 7, 3) := by decide +kernel
theorem dX5_test_133 : decode cX5_test 133 = .ok (.iconst 0, 1) := by decide +kernel
theorem dX5_test_134 : decode cX5_test 134 = .ok (.goto 4, 3) := by decide +kernel
theorem dX5_test_137 : decode cX5_test 137 = .ok (.iconst 3, 1) := by decide +kernel
theorem dX5_test_138 : decode cX5_test 138 = .ok (.ireturn, 1) := by decide +kernel
theorem dX5_order_0 : decode cX5_order 0 = .ok (.aload_n 0, 1) := by decide +kernel
theorem dX5_order_1 : decode cX5_order 1 = .ok (.aload_n 0, 1) := by decide +kernel
theorem dX5_order_2 : decode cX5_order 2 = .ok (.invokevirtual 101, 3) := by decide +kernel
theorem dX5_order_5 : decode cX5_order 5 = .ok (.ifCond .ne 7, 3) := by decide +kernel
theorem dX5_order_8 : decode cX5_order 8 = .ok (.iconst 1, 1) := by decide +kernel
theorem dX5_order_9 : decode cX5_order 9 = .ok (.goto 20, 3) := by decide +kernel
theorem dX5_order_12 : decode cX5_order 12 = .ok (.iload_n 1, 1) := by decide +kernel
theorem dX5_order_13 : decode cX5_order 13 = .ok (.iconst 1, 1) := by decide +kernel
theorem dX5_order_14 : decode cX5_order 14 = .ok (.if_icmp .lt 10, 3) := by decide +kernel
theorem dX5_order_17 : decode cX5_order 17 = .ok (.iload_n 1, 1) := by decide +kernel
theorem dX5_order_18 : decode cX5_order 18 = .ok (.sipush 1000, 3) := by decide +kernel
theorem dX5_order_21 : decode cX5_order 21 = .ok (.if_icmp .le 7, 3) := by decide +kernel
theorem dX5_order_24 : decode cX5_order 24 = .ok (.iconst 2, 1) := by decide +kernel
theorem dX5_order_25 : decode cX5_order 25 = .ok (.goto 4, 3) := by decide +kernel
theorem dX5_order_28 : decode cX5_order 28 = .ok (.iconst 0, 1) := by decide +kernel
theorem dX5_order_29 : decode cX5_order 29 = .ok (.putfield 27, 3) := by decide +kernel
theorem dX5_order_32 : decode cX5_order 32 = .ok (.aload_n 0, 1) := by decide +kernel
theorem dX5_order_33 : decode cX5_order 33 = .ok (.getfield 27, 3) := by decide +kernel
theorem dX5_order_36 : decode cX5_order 36 = .ok (.ifCond .le 5, 3) := by decide +kernel
theorem dX5_order_39 : decode cX5_order 39 = .ok (.iconst 0, 1) := by decide +kernel
theorem dX5_order_40 : decode cX5_order 40 = .ok (.ireturn, 1) := by decide +kernel
theorem dX5_order_41 : decode cX5_order 41 = .ok (.aload_n 0, 1) := by decide +kernel
theorem dX5_order_42 : decode cX5_order 42 = .ok (.bipush 54, 2) := by decide +kernel
theorem dX5_order_44 : decode cX5_order 44 = .ok (.bipush 60, 2) := by decide +kernel
theorem dX5_order_46 : decode cX5_order 46 = .ok (.invokevirtual 62, 3) := by decide +kernel
theorem dX5_order_49 : decode cX5_order 49 = .ok (.iconst 1, 1) := by decide +kernel
theorem dX5_order_50 : decode cX5_order 50 = .ok (.istore_n 2, 1) := by decide +kernel
theorem dX5_order_51 : decode cX5_order 51 = .ok (.iload_n 2, 1) := by decide +kernel
theorem dX5_order_52 : decode cX5_order 52 = .ok (.iload_n 1, 1) := by decide +kernel
theorem dX5_order_53 : decode cX5_order 53 = .ok (.if_icmp .gt 32, 3) := by decide +kernel
theorem dX5_order_56 : decode cX5_order 56 = .ok (.aload_n 0, 1) := by decide +kernel
theorem dX5_order_57 : decode cX5_order 57 = .ok (.bipush 60, 2) := by decide +kernel
theorem dX5_order_59 : decode cX5_order 59 = .ok (.bipush 55, 2) := by decide +kernel
theorem dX5_order_61 : decode cX5_order 61 = .ok (.bipush 60, 2) := by decide +kernel
theorem dX5_order_63 : decode cX5_order 63 = .ok (.invokevirtual 69, 3) := by decide +kernel
theorem dX5_order_66 : decode cX5_order 66 = .ok (.aload_n 0, 1) := by decide +kernel
theorem dX5_order_67 : decode cX5_order 67 = .ok (.bipush 60, 2) := by decide +kernel
theorem dX5_order_69 : decode cX5_order 69 = .ok (.bipush 54, 2) := by decide +kernel
theorem dX5_order_71 : decode cX5_order 71 = .ok (.invokevirtual 135, 3) := by decide +kernel
theorem dX5_order_74 : decode cX5_order 74 = .ok (.ifCond .eq 5, 3) := by decide +kernel
theorem dX5_order_77 : decode cX5_order 77 = .ok (.iload_n 2, 1) := by decide +kernel
theorem dX5_order_78 : decode cX5_order 78 = .ok (.ireturn, 1) := by decide +kernel
theorem dX5_order_79 : decode cX5_order 79 = .ok (.iinc 2 1, 3) := by decide +kernel
theorem dX5_order_82 : decode cX5_order 82 = .ok (.goto (-31), 3) := by decide +kernel
theorem dX5_order_85 : decode cX5_order 85 = .ok (.iconst 0, 1) := by decide +kernel
theorem dX5_order_86 : decode cX5_order 86 = .ok (.ireturn, 1) := by decide +kernel
theorem dX5_classes_0 : decode cX5_classes 0 = .ok (.aload_n 0, 1) := by decide +kernel
theorem dX5_classes_1 : decode cX5_classes 1 = .ok (.aload_n 0, 1) := by decide +kernel
theorem dX5_classes_2 : decode cX5_classes 2 = .ok (.invokevirtual 101, 3) := by decide +kernel
theorem dX5_classes_5 : decode cX5_classes 5 = .ok (.ifCond .ne 7, 3) := by decide +kernel
theorem dX5_classes_8 : decode cX5_classes 8 = .ok (.iconst 1, 1) := by decide +kernel
theorem dX5_classes_9 : decode cX5_classes 9 = .ok (.goto 19, 3) := by decide +kernel
theorem dX5_classes_12 : decode cX5_classes 12 = .ok (.aload_n 0, 1) := by decide +kernel
theorem dX5_classes_13 : decode cX5_classes 13 = .ok (.getfield 90, 3) := by decide +kernel
theorem dX5_classes_16 : decode cX5_classes 16 = .ok (.ldc2_w 148, 3) := by decide +kernel
theorem dX5_classes_19 : decode cX5_classes 19 = .ok (.lcmp, 1) := by decide +kernel
theorem dX5_classes_20 : decode cX5_classes 20 = .ok (.ifCond .le 7, 3) := by decide +kernel
theorem dX5_classes_23 : decode cX5_classes 23 = .ok (.iconst 2, 1) := by decide +kernel
theorem dX5_classes_24 : decode cX5_classes 24 = .ok (.goto 4, 3) := by decide +kernel
theorem dX5_classes_27 : decode cX5_classes 27 = .ok (.iconst 0, 1) := by decide +kernel
theorem dX5_classes_28 : decode cX5_classes 28 = .ok (.putfield 27, 3) := by decide +kernel
theorem dX5_classes_31 : decode cX5_classes 31 = .ok (.aload_n 0, 1) := by decide +kernel
theorem dX5_classes_32 : decode cX5_classes 32 = .ok (.getfield 27, 3) := by decide +kernel
theorem dX5_classes_35 : decode cX5_classes 35 = .ok (.ifCond .le 5, 3) := by decide +kernel
theorem dX5_classes_38 : decode cX5_classes 38 = .ok (.iconst 0, 1) := by decide +kernel
theorem dX5_classes_39 : decode cX5_classes 39 = .ok (.ireturn, 1) := by decide +kernel
theorem dX5_classes_40 : decode cX5_classes 40 = .ok (.iconst 0, 1) := by decide +kernel
theorem dX5_classes_41 : decode cX5_classes 41 = .ok (.istore_n 1, 1) := by decide +kernel
theorem dX5_classes_42 : decode cX5_classes 42 = .ok (.lconst 1, 1) := by decide +kernel
theorem dX5_classes_43 : decode cX5_classes 43 = .ok (.lstore_n 2, 1) := by decide +kernel
theorem dX5_classes_44 : decode cX5_classes 44 = .ok (.ldc2_w 150, 3) := by decide +kernel
theorem dX5_classes_47 : decode cX5_classes 47 = .ok (.lload_n 2, 1) := by decide +kernel
theorem dX5_classes_48 : decode cX5_classes 48 = .ok (.lmul, 1) := by decide +kernel
theorem dX5_classes_49 : decode cX5_classes 49 = .ok (.lload_n 2, 1) := by decide +kernel
theorem dX5_classes_50 : decode cX5_classes 50 = .ok (.lmul, 1) := by decide +kernel
theorem dX5_classes_51 : decode cX5_classes 51 = .ok (.aload_n 0, 1) := by decide +kernel
theorem dX5_classes_52 : decode cX5_classes 52 = .ok (.getfield 90, 3) := by decide +kernel
theorem dX5_classes_55 : decode cX5_classes 55 = .ok (.lcmp, 1) := by decide +kernel
theorem dX5_classes_56 : decode cX5_classes 56 = .ok (.ifCond .gt 112, 3) := by decide +kernel
theorem dX5_classes_59 : decode cX5_classes 59 = .ok (.lload_n 2, 1) := by decide +kernel
theorem dX5_classes_60 : decode cX5_classes 60 = .ok (.lneg, 1) := by decide +kernel
theorem dX5_classes_61 : decode cX5_classes 61 = .ok (.lconst 1, 1) := by decide +kernel
theorem dX5_classes_62 : decode cX5_classes 62 = .ok (.ladd, 1) := by decide +kernel
theorem dX5_classes_63 : decode cX5_classes 63 = .ok (.lstore 4, 2) := by decide +kernel
theorem dX5_classes_65 : decode cX5_classes 65 = .ok (.lload 4, 2) := by decide +kernel
theorem dX5_classes_67 : decode cX5_classes 67 = .ok (.lload_n 2, 1) := by decide +kernel
theorem dX5_classes_68 : decode cX5_classes 68 = .ok (.lcmp, 1) := by decide +kernel
theorem dX5_classes_69 : decode cX5_classes 69 = .ok (.ifCond .gt 92, 3) := by decide +kernel
theorem dX5_classes_72 : decode cX5_classes 72 = .ok (.lload 4, 2) := by decide +kernel
theorem dX5_classes_74 : decode cX5_classes 74 = .ok (.lload 4, 2) := by decide +kernel
theorem dX5_classes_76 : decode cX5_classes 76 = .ok (.lmul, 1) := by decide +kernel
theorem dX5_classes_77 : decode cX5_classes 77 = .ok (.aload_n 0, 1) := by decide +kernel
theorem dX5_classes_78 : decode cX5_classes 78 = .ok (.getfield 90, 3) := by decide +kernel
theorem dX5_classes_81 : decode cX5_classes 81 = .ok (.ladd, 1) := by decide +kernel
theorem dX5_classes_82 : decode cX5_classes 82 = .ok (.lstore 6, 2) := by decide +kernel
theorem dX5_classes_84 : decode cX5_classes 84 = .ok (.lload 6, 2) := by decide +kernel
theorem dX5_classes_86 : decode cX5_classes 86 = .ok (.ldc2_w 97, 3) := by decide +kernel
theorem dX5_classes_89 : decode cX5_classes 89 = .ok (.lload_n 2, 1) := by decide +kernel
theorem dX5_classes_90 : decode cX5_classes 90 = .ok (.lmul, 1) := by decide +kernel
theorem dX5_classes_91 : decode cX5_classes 91 = .ok (.lrem, 1) := by decide +kernel
theorem dX5_classes_92 : decode cX5_classes 92 = .ok (.lconst 0, 1) := by decide +kernel
theorem dX5_classes_93 : decode cX5_classes 93 = .ok (.lcmp, 1) := by decide +kernel
theorem dX5_classes_94 : decode cX5_classes 94 = .ok (.ifCond .ne 58, 3) := by decide +kernel
theorem dX5_classes_97 : decode cX5_classes 97 = .ok (.aload_n 0, 1) := by decide +kernel
theorem dX5_classes_98 : decode cX5_classes 98 = .ok (.bipush 60, 2) := by decide +kernel
theorem dX5_classes_100 : decode cX5_classes 100 = .ok (.lload_n 2, 1) := by decide +kernel
theorem dX5_classes_101 : decode cX5_classes 101 = .ok (.lload 4, 2) := by decide +kernel
theorem dX5_classes_103 : decode cX5_classes 103 = .ok (.lload 6, 2) := by decide +kernel
theorem dX5_classes_105 : decode cX5_classes 105 = .ok (.ldc2_w 97, 3) := by decide +kernel
theorem dX5_classes_108 : decode cX5_classes 108 = .ok (.lload_n 2, 1) := by decide +kernel
theorem dX5_classes_109 : decode cX5_classes 109 = .ok (.lmul, 1) := by decide +kernel
theorem dX5_classes_110 : decode cX5_classes 110 = .ok (.ldiv, 1) := by decide +kernel
theorem dX5_classes_111 : decode cX5_classes 111 = .ok (.invokevirtual 35, 3) := by decide +kernel
theorem dX5_classes_114 : decode cX5_classes 114 = .ok (.aload_n 0, 1) := by decide +kernel
theorem dX5_classes_115 : decode cX5_classes 115 = .ok (.bipush 60, 2) := by decide +kernel
theorem dX5_classes_117 : decode cX5_classes 117 = .ok (.invokevirtual 39, 3) := by decide +kernel
theorem dX5_classes_120 : decode cX5_classes 120 = .ok (.ifCond .eq 30, 3) := by decide +kernel
theorem dX5_classes_123 : decode cX5_classes 123 = .ok (.lload_n 2, 1) := by decide +kernel
theorem dX5_classes_124 : decode cX5_classes 124 = .ok (.lload 4, 2) := by decide +kernel
theorem dX5_classes_126 : decode cX5_classes 126 = .ok (.invokestatic 48, 3) := by decide +kernel
theorem dX5_classes_129 : decode cX5_classes 129 = .ok (.aload_n 0, 1) := by decide +kernel
theorem dX5_classes_130 : decode cX5_classes 130 = .ok (.getfield 16, 3) := by decide +kernel
theorem dX5_classes_133 : decode cX5_classes 133 = .ok (.bipush 60, 2) := by decide +kernel
theorem dX5_classes_135 : decode cX5_classes 135 = .ok (.laload, 1) := by decide +kernel
theorem dX5_classes_136 : decode cX5_classes 136 = .ok (.invokestatic 48, 3) := by decide +kernel
theorem dX5_classes_139 : decode cX5_classes 139 = .ok (.lconst 1, 1) := by decide +kernel
theorem dX5_classes_140 : decode cX5_classes 140 = .ok (.lcmp, 1) := by decide +kernel
theorem dX5_classes_141 : decode cX5_classes 141 = .ok (.ifCond .ne 9, 3) := by decide +kernel
theorem dX5_classes_144 : decode cX5_classes 144 = .ok (.iload_n 1, 1) := by decide +kernel
theorem dX5_classes_145 : decode cX5_classes 145 = .ok (.iconst 1, 1) := by decide +kernel
theorem dX5_classes_146 : decode cX5_classes 146 = .ok (.iadd, 1) := by decide +kernel
theorem dX5_classes_147 : decode cX5_classes 147 = .ok (.goto 4, 3) := by decide +kernel
theorem dX5_classes_150 : decode cX5_classes 150 = .ok (.iload_n 1, 1) := by decide +kernel
theorem dX5_classes_151 : decode cX5_classes 151 = .ok (.istore_n 1, 1) := by decide +kernel
theorem dX5_classes_152 : decode cX5_classes 152 = .ok (.lload 4, 2) := by decide +kernel
theorem dX5_classes_154 : decode cX5_classes 154 = .ok (.lconst 1, 1) := by decide +kernel
theorem dX5_classes_155 : decode cX5_classes 155 = .ok (.ladd, 1) := by decide +kernel
theorem dX5_classes_156 : decode cX5_classes 156 = .ok (.lstore 4, 2) := by decide +kernel
theorem dX5_classes_158 : decode cX5_classes 158 = .ok (.goto (-93), 3) := by decide +kernel
theorem dX5_classes_161 : decode cX5_classes 161 = .ok (.lload_n 2, 1) := by decide +kernel
theorem dX5_classes_162 : decode cX5_classes 162 = .ok (.lconst 1, 1) := by decide +kernel
theorem dX5_classes_163 : decode cX5_classes 163 = .ok (.ladd, 1) := by decide +kernel
theorem dX5_classes_164 : decode cX5_classes 164 = .ok (.lstore_n 2, 1) := by decide +kernel
theorem dX5_classes_165 : decode cX5_classes 165 = .ok (.goto (-121), 3) := by decide +kernel
theorem dX5_classes_168 : decode cX5_classes 168 = .ok (.iload_n 1, 1) := by decide +kernel
theorem dX5_classes_169 : decode cX5_classes 169 = .ok (.ireturn, 1) := by decide +kernel
theorem dJ9_min_7cf53_0 : decode cJ9_min_7cf53 0 = .ok (.iload_n 0, 1) := by decide +kernel
theorem dJ9_min_7cf53_1 : decode cJ9_min_7cf53 1 = .ok (.iload_n 1, 1) := by decide +kernel
theorem dJ9_min_7cf53_2 : decode cJ9_min_7cf53 2 = .ok (.if_icmp .gt 7, 3) := by decide +kernel
theorem dJ9_min_7cf53_5 : decode cJ9_min_7cf53 5 = .ok (.iload_n 0, 1) := by decide +kernel
theorem dJ9_min_7cf53_6 : decode cJ9_min_7cf53 6 = .ok (.goto 4, 3) := by decide +kernel
theorem dJ9_min_7cf53_9 : decode cJ9_min_7cf53 9 = .ok (.iload_n 1, 1) := by decide +kernel
theorem dJ9_min_7cf53_10 : decode cJ9_min_7cf53 10 = .ok (.ireturn, 1) := by decide +kernel
theorem dL_discriminant_0 : decode cL_discriminant 0 = .ok (.aload_n 0, 1) := by decide +kernel
theorem dL_discriminant_1 : decode cL_discriminant 1 = .ok (.iload_n 1, 1) := by decide +kernel
theorem dL_discriminant_2 : decode cL_discriminant 2 = .ok (.invokevirtual 7, 3) := by decide +kernel
theorem dL_discriminant_5 : decode cL_discriminant 5 = .ok (.goto 9, 3) := by decide +kernel
theorem dL_discriminant_8 : decode cL_discriminant 8 = .ok (.astore_n 2, 1) := by decide +kernel
theorem dL_discriminant_9 : decode cL_discriminant 9 = .ok (.iconst 1, 1) := by decide +kernel
theorem dL_discriminant_10 : decode cL_discriminant 10 = .ok (.ireturn, 1) := by decide +kernel
theorem dL_discriminant_11 : decode cL_discriminant 11 = .ok (.astore_n 2, 1) := by decide +kernel
theorem dL_discriminant_12 : decode cL_discriminant 12 = .ok (.iconst 2, 1) := by decide +kernel
theorem dL_discriminant_13 : decode cL_discriminant 13 = .ok (.ireturn, 1) := by decide +kernel
theorem dL_discriminant_14 : decode cL_discriminant 14 = .ok (.iconst 0, 1) := by decide +kernel
theorem dL_discriminant_15 : decode cL_discriminant 15 = .ok (.ireturn, 1) := by decide +kernel
theorem dL_begin_0 : decode cL_begin 0 = .ok (.aload_n 2, 1) := by decide +kernel
theorem dL_begin_1 : decode cL_begin 1 = .ok (.iconst 0, 1) := by decide +kernel
theorem dL_begin_2 : decode cL_begin 2 = .ok (.aload_n 0, 1) := by decide +kernel
theorem dL_begin_3 : decode cL_begin 3 = .ok (.iload_n 1, 1) := by decide +kernel
theorem dL_begin_4 : decode cL_begin 4 = .ok (.invokevirtual 17, 3) := by decide +kernel
theorem dL_begin_7 : decode cL_begin 7 = .ok (.i2l, 1) := by decide +kernel
theorem dL_begin_8 : decode cL_begin 8 = .ok (.lastore, 1) := by decide +kernel
theorem dL_begin_9 : decode cL_begin 9 = .ok (.goto 9, 3) := by decide +kernel
theorem dL_begin_12 : decode cL_begin 12 = .ok (.astore_n 3, 1) := by decide +kernel
theorem dL_begin_13 : decode cL_begin 13 = .ok (.iconst 1, 1) := by decide +kernel
theorem dL_begin_14 : decode cL_begin 14 = .ok (.ireturn, 1) := by decide +kernel
theorem dL_begin_15 : decode cL_begin 15 = .ok (.astore_n 3, 1) := by decide +kernel
theorem dL_begin_16 : decode cL_begin 16 = .ok (.iconst 2, 1) := by decide +kernel
theorem dL_begin_17 : decode cL_begin 17 = .ok (.ireturn, 1) := by decide +kernel
theorem dL_begin_18 : decode cL_begin 18 = .ok (.iconst 0, 1) := by decide +kernel
theorem dL_begin_19 : decode cL_begin 19 = .ok (.ireturn, 1) := by decide +kernel
theorem dL_work_0 : decode cL_work 0 = .ok (.aload_n 2, 1) := by decide +kernel
theorem dL_work_1 : decode cL_work 1 = .ok (.iconst 0, 1) := by decide +kernel
theorem dL_work_2 : decode cL_work 2 = .ok (.aload_n 0, 1) := by decide +kernel
theorem dL_work_3 : decode cL_work 3 = .ok (.iload_n 1, 1) := by decide +kernel
theorem dL_work_4 : decode cL_work 4 = .ok (.invokevirtual 21, 3) := by decide +kernel
theorem dL_work_7 : decode cL_work 7 = .ok (.i2l, 1) := by decide +kernel
theorem dL_work_8 : decode cL_work 8 = .ok (.lastore, 1) := by decide +kernel
theorem dL_work_9 : decode cL_work 9 = .ok (.goto 9, 3) := by decide +kernel
theorem dL_work_12 : decode cL_work 12 = .ok (.astore_n 3, 1) := by decide +kernel
theorem dL_work_13 : decode cL_work 13 = .ok (.iconst 1, 1) := by decide +kernel
theorem dL_work_14 : decode cL_work 14 = .ok (.ireturn, 1) := by decide +kernel
theorem dL_work_15 : decode cL_work 15 = .ok (.astore_n 3, 1) := by decide +kernel
theorem dL_work_16 : decode cL_work 16 = .ok (.iconst 2, 1) := by decide +kernel
theorem dL_work_17 : decode cL_work 17 = .ok (.ireturn, 1) := by decide +kernel
theorem dL_work_18 : decode cL_work 18 = .ok (.iconst 0, 1) := by decide +kernel
theorem dL_work_19 : decode cL_work 19 = .ok (.ireturn, 1) := by decide +kernel
end
section
theorem dL_prove_0 : decode cL_prove 0 = .ok (.aload_n 2, 1) := by decide +kernel
theorem dL_prove_1 : decode cL_prove 1 = .ok (.iconst 0, 1) := by decide +kernel
theorem dL_prove_2 : decode cL_prove 2 = .ok (.aload_n 0, 1) := by decide +kernel
theorem dL_prove_3 : decode cL_prove 3 = .ok (.iload_n 1, 1) := by decide +kernel
theorem dL_prove_4 : decode cL_prove 4 = .ok (.invokevirtual 24, 3) := by decide +kernel
theorem dL_prove_7 : decode cL_prove 7 = .ok (.i2l, 1) := by decide +kernel
theorem dL_prove_8 : decode cL_prove 8 = .ok (.lastore, 1) := by decide +kernel
theorem dL_prove_9 : decode cL_prove 9 = .ok (.goto 9, 3) := by decide +kernel
theorem dL_prove_12 : decode cL_prove 12 = .ok (.astore_n 3, 1) := by decide +kernel
theorem dL_prove_13 : decode cL_prove 13 = .ok (.iconst 1, 1) := by decide +kernel
theorem dL_prove_14 : decode cL_prove 14 = .ok (.ireturn, 1) := by decide +kernel
theorem dL_prove_15 : decode cL_prove 15 = .ok (.astore_n 3, 1) := by decide +kernel
theorem dL_prove_16 : decode cL_prove 16 = .ok (.iconst 2, 1) := by decide +kernel
theorem dL_prove_17 : decode cL_prove 17 = .ok (.ireturn, 1) := by decide +kernel
theorem dL_prove_18 : decode cL_prove 18 = .ok (.iconst 0, 1) := by decide +kernel
theorem dL_prove_19 : decode cL_prove 19 = .ok (.ireturn, 1) := by decide +kernel
theorem dL_publish_0 : decode cL_publish 0 = .ok (.aload_n 1, 1) := by decide +kernel
theorem dL_publish_1 : decode cL_publish 1 = .ok (.iconst 0, 1) := by decide +kernel
theorem dL_publish_2 : decode cL_publish 2 = .ok (.aload_n 0, 1) := by decide +kernel
theorem dL_publish_3 : decode cL_publish 3 = .ok (.invokevirtual 27, 3) := by decide +kernel
theorem dL_publish_6 : decode cL_publish 6 = .ok (.i2l, 1) := by decide +kernel
theorem dL_publish_7 : decode cL_publish 7 = .ok (.lastore, 1) := by decide +kernel
theorem dL_publish_8 : decode cL_publish 8 = .ok (.goto 6, 3) := by decide +kernel
theorem dL_publish_11 : decode cL_publish 11 = .ok (.astore_n 2, 1) := by decide +kernel
theorem dL_publish_12 : decode cL_publish 12 = .ok (.iconst 1, 1) := by decide +kernel
theorem dL_publish_13 : decode cL_publish 13 = .ok (.ireturn, 1) := by decide +kernel
theorem dL_publish_14 : decode cL_publish 14 = .ok (.iconst 0, 1) := by decide +kernel
theorem dL_publish_15 : decode cL_publish 15 = .ok (.ireturn, 1) := by decide +kernel
theorem dL_told_0 : decode cL_told 0 = .ok (.aload_n 3, 1) := by decide +kernel
theorem dL_told_1 : decode cL_told 1 = .ok (.iconst 0, 1) := by decide +kernel
theorem dL_told_2 : decode cL_told 2 = .ok (.aload_n 0, 1) := by decide +kernel
theorem dL_told_3 : decode cL_told 3 = .ok (.iload_n 1, 1) := by decide +kernel
theorem dL_told_4 : decode cL_told 4 = .ok (.iload_n 2, 1) := by decide +kernel
theorem dL_told_5 : decode cL_told 5 = .ok (.invokevirtual 31, 3) := by decide +kernel
theorem dL_told_8 : decode cL_told 8 = .ok (.i2l, 1) := by decide +kernel
theorem dL_told_9 : decode cL_told 9 = .ok (.lastore, 1) := by decide +kernel
theorem dL_told_10 : decode cL_told 10 = .ok (.goto 11, 3) := by decide +kernel
theorem dL_told_13 : decode cL_told 13 = .ok (.astore 4, 2) := by decide +kernel
theorem dL_told_15 : decode cL_told 15 = .ok (.iconst 1, 1) := by decide +kernel
theorem dL_told_16 : decode cL_told 16 = .ok (.ireturn, 1) := by decide +kernel
theorem dL_told_17 : decode cL_told 17 = .ok (.astore 4, 2) := by decide +kernel
theorem dL_told_19 : decode cL_told 19 = .ok (.iconst 2, 1) := by decide +kernel
theorem dL_told_20 : decode cL_told 20 = .ok (.ireturn, 1) := by decide +kernel
theorem dL_told_21 : decode cL_told 21 = .ok (.iconst 0, 1) := by decide +kernel
theorem dL_told_22 : decode cL_told 22 = .ok (.ireturn, 1) := by decide +kernel
theorem dL_form_0 : decode cL_form 0 = .ok (.aload 4, 2) := by decide +kernel
theorem dL_form_2 : decode cL_form 2 = .ok (.iconst 0, 1) := by decide +kernel
theorem dL_form_3 : decode cL_form 3 = .ok (.aload_n 0, 1) := by decide +kernel
theorem dL_form_4 : decode cL_form 4 = .ok (.iload_n 1, 1) := by decide +kernel
theorem dL_form_5 : decode cL_form 5 = .ok (.iload_n 2, 1) := by decide +kernel
theorem dL_form_6 : decode cL_form 6 = .ok (.iload_n 3, 1) := by decide +kernel
theorem dL_form_7 : decode cL_form 7 = .ok (.invokevirtual 37, 3) := by decide +kernel
theorem dL_form_10 : decode cL_form 10 = .ok (.i2l, 1) := by decide +kernel
theorem dL_form_11 : decode cL_form 11 = .ok (.lastore, 1) := by decide +kernel
theorem dL_form_12 : decode cL_form 12 = .ok (.goto 11, 3) := by decide +kernel
theorem dL_form_15 : decode cL_form 15 = .ok (.astore 5, 2) := by decide +kernel
theorem dL_form_17 : decode cL_form 17 = .ok (.iconst 1, 1) := by decide +kernel
theorem dL_form_18 : decode cL_form 18 = .ok (.ireturn, 1) := by decide +kernel
theorem dL_form_19 : decode cL_form 19 = .ok (.astore 5, 2) := by decide +kernel
theorem dL_form_21 : decode cL_form 21 = .ok (.iconst 2, 1) := by decide +kernel
theorem dL_form_22 : decode cL_form 22 = .ok (.ireturn, 1) := by decide +kernel
theorem dL_form_23 : decode cL_form 23 = .ok (.iconst 0, 1) := by decide +kernel
theorem dL_form_24 : decode cL_form 24 = .ok (.ireturn, 1) := by decide +kernel
theorem dL_verify_0 : decode cL_verify 0 = .ok (.aload_n 2, 1) := by decide +kernel
theorem dL_verify_1 : decode cL_verify 1 = .ok (.iconst 0, 1) := by decide +kernel
theorem dL_verify_2 : decode cL_verify 2 = .ok (.aload_n 0, 1) := by decide +kernel
theorem dL_verify_3 : decode cL_verify 3 = .ok (.iload_n 1, 1) := by decide +kernel
theorem dL_verify_4 : decode cL_verify 4 = .ok (.invokevirtual 41, 3) := by decide +kernel
theorem dL_verify_7 : decode cL_verify 7 = .ok (.ifCond .eq 7, 3) := by decide +kernel
theorem dL_verify_10 : decode cL_verify 10 = .ok (.lconst 1, 1) := by decide +kernel
theorem dL_verify_11 : decode cL_verify 11 = .ok (.goto 4, 3) := by decide +kernel
theorem dL_verify_14 : decode cL_verify 14 = .ok (.lconst 0, 1) := by decide +kernel
theorem dL_verify_15 : decode cL_verify 15 = .ok (.lastore, 1) := by decide +kernel
theorem dL_verify_16 : decode cL_verify 16 = .ok (.goto 9, 3) := by decide +kernel
theorem dL_verify_19 : decode cL_verify 19 = .ok (.astore_n 3, 1) := by decide +kernel
theorem dL_verify_20 : decode cL_verify 20 = .ok (.iconst 1, 1) := by decide +kernel
theorem dL_verify_21 : decode cL_verify 21 = .ok (.ireturn, 1) := by decide +kernel
theorem dL_verify_22 : decode cL_verify 22 = .ok (.astore_n 3, 1) := by decide +kernel
theorem dL_verify_23 : decode cL_verify 23 = .ok (.iconst 2, 1) := by decide +kernel
theorem dL_verify_24 : decode cL_verify 24 = .ok (.ireturn, 1) := by decide +kernel
theorem dL_verify_25 : decode cL_verify 25 = .ok (.iconst 0, 1) := by decide +kernel
theorem dL_verify_26 : decode cL_verify 26 = .ok (.ireturn, 1) := by decide +kernel
theorem dL_put_0 : decode cL_put 0 = .ok (.aload_n 0, 1) := by decide +kernel
theorem dL_put_1 : decode cL_put 1 = .ok (.iload_n 1, 1) := by decide +kernel
theorem dL_put_2 : decode cL_put 2 = .ok (.iload_n 2, 1) := by decide +kernel
theorem dL_put_3 : decode cL_put 3 = .ok (.iload_n 3, 1) := by decide +kernel
theorem dL_put_4 : decode cL_put 4 = .ok (.invokevirtual 45, 3) := by decide +kernel
theorem dL_put_7 : decode cL_put 7 = .ok (.goto 15, 3) := by decide +kernel
theorem dL_put_10 : decode cL_put 10 = .ok (.astore 4, 2) := by decide +kernel
theorem dL_put_12 : decode cL_put 12 = .ok (.iconst 1, 1) := by decide +kernel
theorem dL_put_13 : decode cL_put 13 = .ok (.ireturn, 1) := by decide +kernel
theorem dL_put_14 : decode cL_put 14 = .ok (.astore 4, 2) := by decide +kernel
theorem dL_put_16 : decode cL_put 16 = .ok (.iconst 2, 1) := by decide +kernel
theorem dL_put_17 : decode cL_put 17 = .ok (.ireturn, 1) := by decide +kernel
theorem dL_put_18 : decode cL_put 18 = .ok (.astore 4, 2) := by decide +kernel
theorem dL_put_20 : decode cL_put 20 = .ok (.iconst 3, 1) := by decide +kernel
theorem dL_put_21 : decode cL_put 21 = .ok (.ireturn, 1) := by decide +kernel
theorem dL_put_22 : decode cL_put 22 = .ok (.iconst 0, 1) := by decide +kernel
theorem dL_put_23 : decode cL_put 23 = .ok (.ireturn, 1) := by decide +kernel
theorem dL_buffer_0 : decode cL_buffer 0 = .ok (.aload_n 3, 1) := by decide +kernel
theorem dL_buffer_1 : decode cL_buffer 1 = .ok (.iconst 0, 1) := by decide +kernel
theorem dL_buffer_2 : decode cL_buffer 2 = .ok (.aload_n 0, 1) := by decide +kernel
theorem dL_buffer_3 : decode cL_buffer 3 = .ok (.iload_n 1, 1) := by decide +kernel
theorem dL_buffer_4 : decode cL_buffer 4 = .ok (.iload_n 2, 1) := by decide +kernel
theorem dL_buffer_5 : decode cL_buffer 5 = .ok (.invokevirtual 49, 3) := by decide +kernel
theorem dL_buffer_8 : decode cL_buffer 8 = .ok (.lastore, 1) := by decide +kernel
theorem dL_buffer_9 : decode cL_buffer 9 = .ok (.goto 15, 3) := by decide +kernel
theorem dL_buffer_12 : decode cL_buffer 12 = .ok (.astore 4, 2) := by decide +kernel
theorem dL_buffer_14 : decode cL_buffer 14 = .ok (.iconst 1, 1) := by decide +kernel
theorem dL_buffer_15 : decode cL_buffer 15 = .ok (.ireturn, 1) := by decide +kernel
theorem dL_buffer_16 : decode cL_buffer 16 = .ok (.astore 4, 2) := by decide +kernel
theorem dL_buffer_18 : decode cL_buffer 18 = .ok (.iconst 2, 1) := by decide +kernel
theorem dL_buffer_19 : decode cL_buffer 19 = .ok (.ireturn, 1) := by decide +kernel
theorem dL_buffer_20 : decode cL_buffer 20 = .ok (.astore 4, 2) := by decide +kernel
theorem dL_buffer_22 : decode cL_buffer 22 = .ok (.iconst 3, 1) := by decide +kernel
theorem dL_buffer_23 : decode cL_buffer 23 = .ok (.ireturn, 1) := by decide +kernel
theorem dL_buffer_24 : decode cL_buffer 24 = .ok (.iconst 0, 1) := by decide +kernel
theorem dL_buffer_25 : decode cL_buffer 25 = .ok (.ireturn, 1) := by decide +kernel
theorem dL_reduce_0 : decode cL_reduce 0 = .ok (.aload_n 0, 1) := by decide +kernel
theorem dL_reduce_1 : decode cL_reduce 1 = .ok (.iload_n 1, 1) := by decide +kernel
theorem dL_reduce_2 : decode cL_reduce 2 = .ok (.iload_n 2, 1) := by decide +kernel
theorem dL_reduce_3 : decode cL_reduce 3 = .ok (.invokevirtual 55, 3) := by decide +kernel
theorem dL_reduce_6 : decode cL_reduce 6 = .ok (.goto 12, 3) := by decide +kernel
theorem dL_reduce_9 : decode cL_reduce 9 = .ok (.astore_n 3, 1) := by decide +kernel
theorem dL_reduce_10 : decode cL_reduce 10 = .ok (.iconst 1, 1) := by decide +kernel
theorem dL_reduce_11 : decode cL_reduce 11 = .ok (.ireturn, 1) := by decide +kernel
theorem dL_reduce_12 : decode cL_reduce 12 = .ok (.astore_n 3, 1) := by decide +kernel
theorem dL_reduce_13 : decode cL_reduce 13 = .ok (.iconst 2, 1) := by decide +kernel
theorem dL_reduce_14 : decode cL_reduce 14 = .ok (.ireturn, 1) := by decide +kernel
theorem dL_reduce_15 : decode cL_reduce 15 = .ok (.astore_n 3, 1) := by decide +kernel
theorem dL_reduce_16 : decode cL_reduce 16 = .ok (.iconst 3, 1) := by decide +kernel
theorem dL_reduce_17 : decode cL_reduce 17 = .ok (.ireturn, 1) := by decide +kernel
theorem dL_reduce_18 : decode cL_reduce 18 = .ok (.iconst 0, 1) := by decide +kernel
theorem dL_reduce_19 : decode cL_reduce 19 = .ok (.ireturn, 1) := by decide +kernel
theorem dL_multiply_0 : decode cL_multiply 0 = .ok (.aload_n 0, 1) := by decide +kernel
theorem dL_multiply_1 : decode cL_multiply 1 = .ok (.iload_n 1, 1) := by decide +kernel
theorem dL_multiply_2 : decode cL_multiply 2 = .ok (.iload_n 2, 1) := by decide +kernel
theorem dL_multiply_3 : decode cL_multiply 3 = .ok (.iload_n 3, 1) := by decide +kernel
theorem dL_multiply_4 : decode cL_multiply 4 = .ok (.invokevirtual 59, 3) := by decide +kernel
theorem dL_multiply_7 : decode cL_multiply 7 = .ok (.goto 15, 3) := by decide +kernel
theorem dL_multiply_10 : decode cL_multiply 10 = .ok (.astore 4, 2) := by decide +kernel
theorem dL_multiply_12 : decode cL_multiply 12 = .ok (.iconst 1, 1) := by decide +kernel
theorem dL_multiply_13 : decode cL_multiply 13 = .ok (.ireturn, 1) := by decide +kernel
theorem dL_multiply_14 : decode cL_multiply 14 = .ok (.astore 4, 2) := by decide +kernel
theorem dL_multiply_16 : decode cL_multiply 16 = .ok (.iconst 2, 1) := by decide +kernel
theorem dL_multiply_17 : decode cL_multiply 17 = .ok (.ireturn, 1) := by decide +kernel
theorem dL_multiply_18 : decode cL_multiply 18 = .ok (.astore 4, 2) := by decide +kernel
theorem dL_multiply_20 : decode cL_multiply 20 = .ok (.iconst 3, 1) := by decide +kernel
theorem dL_multiply_21 : decode cL_multiply 21 = .ok (.ireturn, 1) := by decide +kernel
theorem dL_multiply_22 : decode cL_multiply 22 = .ok (.iconst 0, 1) := by decide +kernel
theorem dL_multiply_23 : decode cL_multiply 23 = .ok (.ireturn, 1) := by decide +kernel
theorem dL_raise_0 : decode cL_raise 0 = .ok (.aload_n 0, 1) := by decide +kernel
theorem dL_raise_1 : decode cL_raise 1 = .ok (.iload_n 1, 1) := by decide +kernel
theorem dL_raise_2 : decode cL_raise 2 = .ok (.iload_n 2, 1) := by decide +kernel
theorem dL_raise_3 : decode cL_raise 3 = .ok (.iload_n 3, 1) := by decide +kernel
theorem dL_raise_4 : decode cL_raise 4 = .ok (.invokevirtual 62, 3) := by decide +kernel
theorem dL_raise_7 : decode cL_raise 7 = .ok (.goto 19, 3) := by decide +kernel
theorem dL_raise_10 : decode cL_raise 10 = .ok (.astore 4, 2) := by decide +kernel
theorem dL_raise_12 : decode cL_raise 12 = .ok (.iconst 1, 1) := by decide +kernel
theorem dL_raise_13 : decode cL_raise 13 = .ok (.ireturn, 1) := by decide +kernel
theorem dL_raise_14 : decode cL_raise 14 = .ok (.astore 4, 2) := by decide +kernel
theorem dL_raise_16 : decode cL_raise 16 = .ok (.iconst 2, 1) := by decide +kernel
theorem dL_raise_17 : decode cL_raise 17 = .ok (.ireturn, 1) := by decide +kernel
theorem dL_raise_18 : decode cL_raise 18 = .ok (.astore 4, 2) := by decide +kernel
theorem dL_raise_20 : decode cL_raise 20 = .ok (.iconst 3, 1) := by decide +kernel
theorem dL_raise_21 : decode cL_raise 21 = .ok (.ireturn, 1) := by decide +kernel
theorem dL_raise_22 : decode cL_raise 22 = .ok (.astore 4, 2) := by decide +kernel
theorem dL_raise_24 : decode cL_raise 24 = .ok (.iconst 4, 1) := by decide +kernel
theorem dL_raise_25 : decode cL_raise 25 = .ok (.ireturn, 1) := by decide +kernel
theorem dL_raise_26 : decode cL_raise 26 = .ok (.iconst 0, 1) := by decide +kernel
theorem dL_raise_27 : decode cL_raise 27 = .ok (.ireturn, 1) := by decide +kernel
theorem dL_test_0 : decode cL_test 0 = .ok (.aload_n 2, 1) := by decide +kernel
theorem dL_test_1 : decode cL_test 1 = .ok (.iconst 0, 1) := by decide +kernel
theorem dL_test_2 : decode cL_test 2 = .ok (.aload_n 0, 1) := by decide +kernel
theorem dL_test_3 : decode cL_test 3 = .ok (.iload_n 1, 1) := by decide +kernel
theorem dL_test_4 : decode cL_test 4 = .ok (.invokevirtual 65, 3) := by decide +kernel
theorem dL_test_7 : decode cL_test 7 = .ok (.i2l, 1) := by decide +kernel
theorem dL_test_8 : decode cL_test 8 = .ok (.lastore, 1) := by decide +kernel
theorem dL_test_9 : decode cL_test 9 = .ok (.goto 12, 3) := by decide +kernel
theorem dL_test_12 : decode cL_test 12 = .ok (.astore_n 3, 1) := by decide +kernel
theorem dL_test_13 : decode cL_test 13 = .ok (.iconst 1, 1) := by decide +kernel
theorem dL_test_14 : decode cL_test 14 = .ok (.ireturn, 1) := by decide +kernel
theorem dL_test_15 : decode cL_test 15 = .ok (.astore_n 3, 1) := by decide +kernel
theorem dL_test_16 : decode cL_test 16 = .ok (.iconst 2, 1) := by decide +kernel
theorem dL_test_17 : decode cL_test 17 = .ok (.ireturn, 1) := by decide +kernel
theorem dL_test_18 : decode cL_test 18 = .ok (.astore_n 3, 1) := by decide +kernel
theorem dL_test_19 : decode cL_test 19 = .ok (.iconst 3, 1) := by decide +kernel
theorem dL_test_20 : decode cL_test 20 = .ok (.ireturn, 1) := by decide +kernel
theorem dL_test_21 : decode cL_test 21 = .ok (.iconst 0, 1) := by decide +kernel
theorem dL_test_22 : decode cL_test 22 = .ok (.ireturn, 1) := by decide +kernel
theorem dL_order_0 : decode cL_order 0 = .ok (.aload_n 2, 1) := by decide +kernel
theorem dL_order_1 : decode cL_order 1 = .ok (.iconst 0, 1) := by decide +kernel
theorem dL_order_2 : decode cL_order 2 = .ok (.aload_n 0, 1) := by decide +kernel
theorem dL_order_3 : decode cL_order 3 = .ok (.iload_n 1, 1) := by decide +kernel
theorem dL_order_4 : decode cL_order 4 = .ok (.invokevirtual 68, 3) := by decide +kernel
theorem dL_order_7 : decode cL_order 7 = .ok (.i2l, 1) := by decide +kernel
theorem dL_order_8 : decode cL_order 8 = .ok (.lastore, 1) := by decide +kernel
theorem dL_order_9 : decode cL_order 9 = .ok (.goto 9, 3) := by decide +kernel
theorem dL_order_12 : decode cL_order 12 = .ok (.astore_n 3, 1) := by decide +kernel
theorem dL_order_13 : decode cL_order 13 = .ok (.iconst 1, 1) := by decide +kernel
theorem dL_order_14 : decode cL_order 14 = .ok (.ireturn, 1) := by decide +kernel
theorem dL_order_15 : decode cL_order 15 = .ok (.astore_n 3, 1) := by decide +kernel
theorem dL_order_16 : decode cL_order 16 = .ok (.iconst 2, 1) := by decide +kernel
theorem dL_order_17 : decode cL_order 17 = .ok (.ireturn, 1) := by decide +kernel
theorem dL_order_18 : decode cL_order 18 = .ok (.iconst 0, 1) := by decide +kernel
theorem dL_order_19 : decode cL_order 19 = .ok (.ireturn, 1) := by decide +kernel
theorem dL_classes_0 : decode cL_classes 0 = .ok (.aload_n 1, 1) := by decide +kernel
theorem dL_classes_1 : decode cL_classes 1 = .ok (.iconst 0, 1) := by decide +kernel
theorem dL_classes_2 : decode cL_classes 2 = .ok (.aload_n 0, 1) := by decide +kernel
theorem dL_classes_3 : decode cL_classes 3 = .ok (.invokevirtual 71, 3) := by decide +kernel
theorem dL_classes_6 : decode cL_classes 6 = .ok (.i2l, 1) := by decide +kernel
theorem dL_classes_7 : decode cL_classes 7 = .ok (.lastore, 1) := by decide +kernel
theorem dL_classes_8 : decode cL_classes 8 = .ok (.goto 9, 3) := by decide +kernel
theorem dL_classes_11 : decode cL_classes 11 = .ok (.astore_n 2, 1) := by decide +kernel
theorem dL_classes_12 : decode cL_classes 12 = .ok (.iconst 1, 1) := by decide +kernel
theorem dL_classes_13 : decode cL_classes 13 = .ok (.ireturn, 1) := by decide +kernel
theorem dL_classes_14 : decode cL_classes 14 = .ok (.astore_n 2, 1) := by decide +kernel
theorem dL_classes_15 : decode cL_classes 15 = .ok (.iconst 2, 1) := by decide +kernel
theorem dL_classes_16 : decode cL_classes 16 = .ok (.ireturn, 1) := by decide +kernel
theorem dL_classes_17 : decode cL_classes 17 = .ok (.iconst 0, 1) := by decide +kernel
theorem dL_classes_18 : decode cL_classes 18 = .ok (.ireturn, 1) := by decide +kernel
theorem dL_law_0 : decode cL_law 0 = .ok (.new 8, 3) := by decide +kernel
theorem dL_law_3 : decode cL_law 3 = .ok (.dup, 1) := by decide +kernel
theorem dL_law_4 : decode cL_law 4 = .ok (.invokespecial 74, 3) := by decide +kernel
theorem dL_law_7 : decode cL_law 7 = .ok (.astore_n 1, 1) := by decide +kernel
theorem dL_law_8 : decode cL_law 8 = .ok (.new 75, 3) := by decide +kernel
theorem dL_law_11 : decode cL_law 11 = .ok (.dup, 1) := by decide +kernel
theorem dL_law_12 : decode cL_law 12 = .ok (.invokespecial 77, 3) := by decide +kernel
theorem dL_law_15 : decode cL_law 15 = .ok (.astore_n 2, 1) := by decide +kernel
theorem dL_law_16 : decode cL_law 16 = .ok (.iconst 1, 1) := by decide +kernel
theorem dL_law_17 : decode cL_law 17 = .ok (.newarray .long, 2) := by decide +kernel
theorem dL_law_19 : decode cL_law 19 = .ok (.astore_n 3, 1) := by decide +kernel
theorem dL_law_20 : decode cL_law 20 = .ok (.iconst 0, 1) := by decide +kernel
theorem dL_law_21 : decode cL_law 21 = .ok (.istore 4, 2) := by decide +kernel
theorem dL_law_23 : decode cL_law 23 = .ok (.iload 4, 2) := by decide +kernel
theorem dL_law_25 : decode cL_law 25 = .ok (.aload_n 0, 1) := by decide +kernel
theorem dL_law_26 : decode cL_law 26 = .ok (.arraylength, 1) := by decide +kernel
theorem dL_law_27 : decode cL_law 27 = .ok (.iconst 4, 1) := by decide +kernel
theorem dL_law_28 : decode cL_law 28 = .ok (.isub, 1) := by decide +kernel
theorem dL_law_29 : decode cL_law 29 = .ok (.if_icmp .gt 1037, 3) := by decide +kernel
theorem dL_law_32 : decode cL_law 32 = .ok (.aload_n 0, 1) := by decide +kernel
theorem dL_law_33 : decode cL_law 33 = .ok (.iload 4, 2) := by decide +kernel
theorem dL_law_35 : decode cL_law 35 = .ok (.iaload, 1) := by decide +kernel
theorem dL_law_36 : decode cL_law 36 = .ok (.bipush 31, 2) := by decide +kernel
theorem dL_law_38 : decode cL_law 38 = .ok (.iand, 1) := by decide +kernel
theorem dL_law_39 : decode cL_law 39 = .ok (.tableswitch 1021 0 17 #[85, 121, 177, 233, 289, 333, 346, 359, 427, 507, 570, 630, 697, 745, 805, 865, 921, 977], 85) := by decide +kernel
theorem dL_law_124 : decode cL_law 124 = .ok (.aload_n 1, 1) := by decide +kernel
theorem dL_law_125 : decode cL_law 125 = .ok (.aload_n 0, 1) := by decide +kernel
theorem dL_law_126 : decode cL_law 126 = .ok (.iload 4, 2) := by decide +kernel
theorem dL_law_128 : decode cL_law 128 = .ok (.iconst 1, 1) := by decide +kernel
theorem dL_law_129 : decode cL_law 129 = .ok (.iadd, 1) := by decide +kernel
theorem dL_law_130 : decode cL_law 130 = .ok (.iaload, 1) := by decide +kernel
theorem dL_law_131 : decode cL_law 131 = .ok (.invokestatic 78, 3) := by decide +kernel
theorem dL_law_134 : decode cL_law 134 = .ok (.istore 5, 2) := by decide +kernel
theorem dL_law_136 : decode cL_law 136 = .ok (.aload_n 2, 1) := by decide +kernel
theorem dL_law_137 : decode cL_law 137 = .ok (.aload_n 0, 1) := by decide +kernel
theorem dL_law_138 : decode cL_law 138 = .ok (.iload 4, 2) := by decide +kernel
theorem dL_law_140 : decode cL_law 140 = .ok (.iconst 1, 1) := by decide +kernel
theorem dL_law_141 : decode cL_law 141 = .ok (.iadd, 1) := by decide +kernel
theorem dL_law_142 : decode cL_law 142 = .ok (.iaload, 1) := by decide +kernel
theorem dL_law_143 : decode cL_law 143 = .ok (.invokevirtual 83, 3) := by decide +kernel
theorem dL_law_146 : decode cL_law 146 = .ok (.aload_n 2, 1) := by decide +kernel
theorem dL_law_147 : decode cL_law 147 = .ok (.invokevirtual 84, 3) := by decide +kernel
theorem dL_law_150 : decode cL_law 150 = .ok (.iload 5, 2) := by decide +kernel
theorem dL_law_152 : decode cL_law 152 = .ok (.if_icmp .eq 5, 3) := by decide +kernel
theorem dL_law_155 : decode cL_law 155 = .ok (.iconst 0, 1) := by decide +kernel
theorem dL_law_156 : decode cL_law 156 = .ok (.ireturn, 1) := by decide +kernel
theorem dL_law_157 : decode cL_law 157 = .ok (.goto 903, 3) := by decide +kernel
theorem dL_law_160 : decode cL_law 160 = .ok (.aload_n 1, 1) := by decide +kernel
theorem dL_law_161 : decode cL_law 161 = .ok (.aload_n 0, 1) := by decide +kernel
theorem dL_law_162 : decode cL_law 162 = .ok (.iload 4, 2) := by decide +kernel
theorem dL_law_164 : decode cL_law 164 = .ok (.iconst 1, 1) := by decide +kernel
theorem dL_law_165 : decode cL_law 165 = .ok (.iadd, 1) := by decide +kernel
theorem dL_law_166 : decode cL_law 166 = .ok (.iaload, 1) := by decide +kernel
theorem dL_law_167 : decode cL_law 167 = .ok (.aload_n 3, 1) := by decide +kernel
theorem dL_law_168 : decode cL_law 168 = .ok (.invokestatic 87, 3) := by decide +kernel
theorem dL_law_171 : decode cL_law 171 = .ok (.istore 5, 2) := by decide +kernel
theorem dL_law_173 : decode cL_law 173 = .ok (.aload_n 2, 1) := by decide +kernel
theorem dL_law_174 : decode cL_law 174 = .ok (.aload_n 0, 1) := by decide +kernel
theorem dL_law_175 : decode cL_law 175 = .ok (.iload 4, 2) := by decide +kernel
theorem dL_law_177 : decode cL_law 177 = .ok (.iconst 1, 1) := by decide +kernel
theorem dL_law_178 : decode cL_law 178 = .ok (.iadd, 1) := by decide +kernel
theorem dL_law_179 : decode cL_law 179 = .ok (.iaload, 1) := by decide +kernel
theorem dL_law_180 : decode cL_law 180 = .ok (.invokevirtual 90, 3) := by decide +kernel
theorem dL_law_183 : decode cL_law 183 = .ok (.istore 6, 2) := by decide +kernel
theorem dL_law_185 : decode cL_law 185 = .ok (.aload_n 2, 1) := by decide +kernel
theorem dL_law_186 : decode cL_law 186 = .ok (.invokevirtual 84, 3) := by decide +kernel
theorem dL_law_189 : decode cL_law 189 = .ok (.iload 5, 2) := by decide +kernel
theorem dL_law_191 : decode cL_law 191 = .ok (.if_icmp .eq 5, 3) := by decide +kernel
theorem dL_law_194 : decode cL_law 194 = .ok (.iconst 0, 1) := by decide +kernel
theorem dL_law_195 : decode cL_law 195 = .ok (.ireturn, 1) := by decide +kernel
theorem dL_law_196 : decode cL_law 196 = .ok (.iload 5, 2) := by decide +kernel
theorem dL_law_198 : decode cL_law 198 = .ok (.ifCond .ne 15, 3) := by decide +kernel
theorem dL_law_201 : decode cL_law 201 = .ok (.aload_n 3, 1) := by decide +kernel
theorem dL_law_202 : decode cL_law 202 = .ok (.iconst 0, 1) := by decide +kernel
theorem dL_law_203 : decode cL_law 203 = .ok (.laload, 1) := by decide +kernel
theorem dL_law_204 : decode cL_law 204 = .ok (.iload 6, 2) := by decide +kernel
theorem dL_law_206 : decode cL_law 206 = .ok (.i2l, 1) := by decide +kernel
theorem dL_law_207 : decode cL_law 207 = .ok (.lcmp, 1) := by decide +kernel
theorem dL_law_208 : decode cL_law 208 = .ok (.ifCond .eq 5, 3) := by decide +kernel
theorem dL_law_211 : decode cL_law 211 = .ok (.iconst 0, 1) := by decide +kernel
theorem dL_law_212 : decode cL_law 212 = .ok (.ireturn, 1) := by decide +kernel
theorem dL_law_213 : decode cL_law 213 = .ok (.goto 847, 3) := by decide +kernel
theorem dL_law_216 : decode cL_law 216 = .ok (.aload_n 1, 1) := by decide +kernel
theorem dL_law_217 : decode cL_law 217 = .ok (.aload_n 0, 1) := by decide +kernel
theorem dL_law_218 : decode cL_law 218 = .ok (.iload 4, 2) := by decide +kernel
theorem dL_law_220 : decode cL_law 220 = .ok (.iconst 1, 1) := by decide +kernel
theorem dL_law_221 : decode cL_law 221 = .ok (.iadd, 1) := by decide +kernel
theorem dL_law_222 : decode cL_law 222 = .ok (.iaload, 1) := by decide +kernel
theorem dL_law_223 : decode cL_law 223 = .ok (.aload_n 3, 1) := by decide +kernel
theorem dL_law_224 : decode cL_law 224 = .ok (.invokestatic 91, 3) := by decide +kernel
theorem dL_law_227 : decode cL_law 227 = .ok (.istore 5, 2) := by decide +kernel
theorem dL_law_229 : decode cL_law 229 = .ok (.aload_n 2, 1) := by decide +kernel
theorem dL_law_230 : decode cL_law 230 = .ok (.aload_n 0, 1) := by decide +kernel
theorem dL_law_231 : decode cL_law 231 = .ok (.iload 4, 2) := by decide +kernel
theorem dL_law_233 : decode cL_law 233 = .ok (.iconst 1, 1) := by decide +kernel
theorem dL_law_234 : decode cL_law 234 = .ok (.iadd, 1) := by decide +kernel
theorem dL_law_235 : decode cL_law 235 = .ok (.iaload, 1) := by decide +kernel
theorem dL_law_236 : decode cL_law 236 = .ok (.invokevirtual 93, 3) := by decide +kernel
theorem dL_law_239 : decode cL_law 239 = .ok (.istore 6, 2) := by decide +kernel
theorem dL_law_241 : decode cL_law 241 = .ok (.aload_n 2, 1) := by decide +kernel
theorem dL_law_242 : decode cL_law 242 = .ok (.invokevirtual 84, 3) := by decide +kernel
theorem dL_law_245 : decode cL_law 245 = .ok (.iload 5, 2) := by decide +kernel
theorem dL_law_247 : decode cL_law 247 = .ok (.if_icmp .eq 5, 3) := by decide +kernel
theorem dL_law_250 : decode cL_law 250 = .ok (.iconst 0, 1) := by decide +kernel
theorem dL_law_251 : decode cL_law 251 = .ok (.ireturn, 1) := by decide +kernel
theorem dL_law_252 : decode cL_law 252 = .ok (.iload 5, 2) := by decide +kernel
theorem dL_law_254 : decode cL_law 254 = .ok (.ifCond .ne 15, 3) := by decide +kernel
theorem dL_law_257 : decode cL_law 257 = .ok (.aload_n 3, 1) := by decide +kernel
theorem dL_law_258 : decode cL_law 258 = .ok (.iconst 0, 1) := by decide +kernel
theorem dL_law_259 : decode cL_law 259 = .ok (.laload, 1) := by decide +kernel
theorem dL_law_260 : decode cL_law 260 = .ok (.iload 6, 2) := by decide +kernel
theorem dL_law_262 : decode cL_law 262 = .ok (.i2l, 1) := by decide +kernel
theorem dL_law_263 : decode cL_law 263 = .ok (.lcmp, 1) := by decide +kernel
theorem dL_law_264 : decode cL_law 264 = .ok (.ifCond .eq 5, 3) := by decide +kernel
theorem dL_law_267 : decode cL_law 267 = .ok (.iconst 0, 1) := by decide +kernel
theorem dL_law_268 : decode cL_law 268 = .ok (.ireturn, 1) := by decide +kernel
theorem dL_law_269 : decode cL_law 269 = .ok (.goto 791, 3) := by decide +kernel
theorem dL_law_272 : decode cL_law 272 = .ok (.aload_n 1, 1) := by decide +kernel
theorem dL_law_273 : decode cL_law 273 = .ok (.aload_n 0, 1) := by decide +kernel
theorem dL_law_274 : decode cL_law 274 = .ok (.iload 4, 2) := by decide +kernel
theorem dL_law_276 : decode cL_law 276 = .ok (.iconst 1, 1) := by decide +kernel
theorem dL_law_277 : decode cL_law 277 = .ok (.iadd, 1) := by decide +kernel
theorem dL_law_278 : decode cL_law 278 = .ok (.iaload, 1) := by decide +kernel
theorem dL_law_279 : decode cL_law 279 = .ok (.aload_n 3, 1) := by decide +kernel
theorem dL_law_280 : decode cL_law 280 = .ok (.invokestatic 94, 3) := by decide +kernel
theorem dL_law_283 : decode cL_law 283 = .ok (.istore 5, 2) := by decide +kernel
theorem dL_law_285 : decode cL_law 285 = .ok (.aload_n 2, 1) := by decide +kernel
theorem dL_law_286 : decode cL_law 286 = .ok (.aload_n 0, 1) := by decide +kernel
theorem dL_law_287 : decode cL_law 287 = .ok (.iload 4, 2) := by decide +kernel
theorem dL_law_289 : decode cL_law 289 = .ok (.iconst 1, 1) := by decide +kernel
theorem dL_law_290 : decode cL_law 290 = .ok (.iadd, 1) := by decide +kernel
theorem dL_law_291 : decode cL_law 291 = .ok (.iaload, 1) := by decide +kernel
theorem dL_law_292 : decode cL_law 292 = .ok (.invokevirtual 96, 3) := by decide +kernel
theorem dL_law_295 : decode cL_law 295 = .ok (.istore 6, 2) := by decide +kernel
theorem dL_law_297 : decode cL_law 297 = .ok (.aload_n 2, 1) := by decide +kernel
theorem dL_law_298 : decode cL_law 298 = .ok (.invokevirtual 84, 3) := by decide +kernel
theorem dL_law_301 : decode cL_law 301 = .ok (.iload 5, 2) := by decide +kernel
theorem dL_law_303 : decode cL_law 303 = .ok (.if_icmp .eq 5, 3) := by decide +kernel
theorem dL_law_306 : decode cL_law 306 = .ok (.iconst 0, 1) := by decide +kernel
theorem dL_law_307 : decode cL_law 307 = .ok (.ireturn, 1) := by decide +kernel
theorem dL_law_308 : decode cL_law 308 = .ok (.iload 5, 2) := by decide +kernel
theorem dL_law_310 : decode cL_law 310 = .ok (.ifCond .ne 15, 3) := by decide +kernel
theorem dL_law_313 : decode cL_law 313 = .ok (.aload_n 3, 1) := by decide +kernel
theorem dL_law_314 : decode cL_law 314 = .ok (.iconst 0, 1) := by decide +kernel
theorem dL_law_315 : decode cL_law 315 = .ok (.laload, 1) := by decide +kernel
theorem dL_law_316 : decode cL_law 316 = .ok (.iload 6, 2) := by decide +kernel
theorem dL_law_318 : decode cL_law 318 = .ok (.i2l, 1) := by decide +kernel
theorem dL_law_319 : decode cL_law 319 = .ok (.lcmp, 1) := by decide +kernel
theorem dL_law_320 : decode cL_law 320 = .ok (.ifCond .eq 5, 3) := by decide +kernel
theorem dL_law_323 : decode cL_law 323 = .ok (.iconst 0, 1) := by decide +kernel
theorem dL_law_324 : decode cL_law 324 = .ok (.ireturn, 1) := by decide +kernel
theorem dL_law_325 : decode cL_law 325 = .ok (.goto 735, 3) := by decide +kernel
theorem dL_law_328 : decode cL_law 328 = .ok (.aload_n 1, 1) := by decide +kernel
theorem dL_law_329 : decode cL_law 329 = .ok (.aload_n 3, 1) := by decide +kernel
theorem dL_law_330 : decode cL_law 330 = .ok (.invokestatic 97, 3) := by decide +kernel
theorem dL_law_333 : decode cL_law 333 = .ok (.istore 5, 2) := by decide +kernel
theorem dL_law_335 : decode cL_law 335 = .ok (.aload_n 2, 1) := by decide +kernel
theorem dL_law_336 : decode cL_law 336 = .ok (.invokevirtual 100, 3) := by decide +kernel
theorem dL_law_339 : decode cL_law 339 = .ok (.istore 6, 2) := by decide +kernel
theorem dL_law_341 : decode cL_law 341 = .ok (.aload_n 2, 1) := by decide +kernel
theorem dL_law_342 : decode cL_law 342 = .ok (.invokevirtual 84, 3) := by decide +kernel
theorem dL_law_345 : decode cL_law 345 = .ok (.iload 5, 2) := by decide +kernel
theorem dL_law_347 : decode cL_law 347 = .ok (.if_icmp .eq 5, 3) := by decide +kernel
theorem dL_law_350 : decode cL_law 350 = .ok (.iconst 0, 1) := by decide +kernel
theorem dL_law_351 : decode cL_law 351 = .ok (.ireturn, 1) := by decide +kernel
theorem dL_law_352 : decode cL_law 352 = .ok (.iload 5, 2) := by decide +kernel
theorem dL_law_354 : decode cL_law 354 = .ok (.ifCond .ne 15, 3) := by decide +kernel
theorem dL_law_357 : decode cL_law 357 = .ok (.aload_n 3, 1) := by decide +kernel
theorem dL_law_358 : decode cL_law 358 = .ok (.iconst 0, 1) := by decide +kernel
theorem dL_law_359 : decode cL_law 359 = .ok (.laload, 1) := by decide +kernel
theorem dL_law_360 : decode cL_law 360 = .ok (.iload 6, 2) := by decide +kernel
theorem dL_law_362 : decode cL_law 362 = .ok (.i2l, 1) := by decide +kernel
theorem dL_law_363 : decode cL_law 363 = .ok (.lcmp, 1) := by decide +kernel
theorem dL_law_364 : decode cL_law 364 = .ok (.ifCond .eq 5, 3) := by decide +kernel
theorem dL_law_367 : decode cL_law 367 = .ok (.iconst 0, 1) := by decide +kernel
theorem dL_law_368 : decode cL_law 368 = .ok (.ireturn, 1) := by decide +kernel
theorem dL_law_369 : decode cL_law 369 = .ok (.goto 691, 3) := by decide +kernel
theorem dL_law_372 : decode cL_law 372 = .ok (.aload_n 1, 1) := by decide +kernel
theorem dL_law_373 : decode cL_law 373 = .ok (.invokevirtual 101, 3) := by decide +kernel
theorem dL_law_376 : decode cL_law 376 = .ok (.aload_n 2, 1) := by decide +kernel
theorem dL_law_377 : decode cL_law 377 = .ok (.invokevirtual 105, 3) := by decide +kernel
theorem dL_law_380 : decode cL_law 380 = .ok (.if_icmp .eq 680, 3) := by decide +kernel
theorem dL_law_383 : decode cL_law 383 = .ok (.iconst 0, 1) := by decide +kernel
theorem dL_law_384 : decode cL_law 384 = .ok (.ireturn, 1) := by decide +kernel
theorem dL_law_385 : decode cL_law 385 = .ok (.aload_n 1, 1) := by decide +kernel
theorem dL_law_386 : decode cL_law 386 = .ok (.invokevirtual 106, 3) := by decide +kernel
theorem dL_law_389 : decode cL_law 389 = .ok (.aload_n 2, 1) := by decide +kernel
theorem dL_law_390 : decode cL_law 390 = .ok (.invokevirtual 109, 3) := by decide +kernel
theorem dL_law_393 : decode cL_law 393 = .ok (.if_icmp .eq 667, 3) := by decide +kernel
theorem dL_law_396 : decode cL_law 396 = .ok (.iconst 0, 1) := by decide +kernel
theorem dL_law_397 : decode cL_law 397 = .ok (.ireturn, 1) := by decide +kernel
theorem dL_law_398 : decode cL_law 398 = .ok (.aload_n 1, 1) := by decide +kernel
theorem dL_law_399 : decode cL_law 399 = .ok (.aload_n 0, 1) := by decide +kernel
theorem dL_law_400 : decode cL_law 400 = .ok (.iload 4, 2) := by decide +kernel
theorem dL_law_402 : decode cL_law 402 = .ok (.iconst 1, 1) := by decide +kernel
theorem dL_law_403 : decode cL_law 403 = .ok (.iadd, 1) := by decide +kernel
theorem dL_law_404 : decode cL_law 404 = .ok (.iaload, 1) := by decide +kernel
theorem dL_law_405 : decode cL_law 405 = .ok (.aload_n 0, 1) := by decide +kernel
theorem dL_law_406 : decode cL_law 406 = .ok (.iload 4, 2) := by decide +kernel
theorem dL_law_408 : decode cL_law 408 = .ok (.iconst 2, 1) := by decide +kernel
theorem dL_law_409 : decode cL_law 409 = .ok (.iadd, 1) := by decide +kernel
theorem dL_law_410 : decode cL_law 410 = .ok (.iaload, 1) := by decide +kernel
theorem dL_law_411 : decode cL_law 411 = .ok (.aload_n 3, 1) := by decide +kernel
theorem dL_law_412 : decode cL_law 412 = .ok (.invokestatic 110, 3) := by decide +kernel
theorem dL_law_415 : decode cL_law 415 = .ok (.istore 5, 2) := by decide +kernel
theorem dL_law_417 : decode cL_law 417 = .ok (.aload_n 2, 1) := by decide +kernel
theorem dL_law_418 : decode cL_law 418 = .ok (.aload_n 0, 1) := by decide +kernel
theorem dL_law_419 : decode cL_law 419 = .ok (.iload 4, 2) := by decide +kernel
theorem dL_law_421 : decode cL_law 421 = .ok (.iconst 1, 1) := by decide +kernel
theorem dL_law_422 : decode cL_law 422 = .ok (.iadd, 1) := by decide +kernel
theorem dL_law_423 : decode cL_law 423 = .ok (.iaload, 1) := by decide +kernel
theorem dL_law_424 : decode cL_law 424 = .ok (.aload_n 0, 1) := by decide +kernel
theorem dL_law_425 : decode cL_law 425 = .ok (.iload 4, 2) := by decide +kernel
theorem dL_law_427 : decode cL_law 427 = .ok (.iconst 2, 1) := by decide +kernel
theorem dL_law_428 : decode cL_law 428 = .ok (.iadd, 1) := by decide +kernel
theorem dL_law_429 : decode cL_law 429 = .ok (.iaload, 1) := by decide +kernel
theorem dL_law_430 : decode cL_law 430 = .ok (.invokevirtual 113, 3) := by decide +kernel
theorem dL_law_433 : decode cL_law 433 = .ok (.istore 6, 2) := by decide +kernel
theorem dL_law_435 : decode cL_law 435 = .ok (.aload_n 2, 1) := by decide +kernel
theorem dL_law_436 : decode cL_law 436 = .ok (.invokevirtual 84, 3) := by decide +kernel
theorem dL_law_439 : decode cL_law 439 = .ok (.iload 5, 2) := by decide +kernel
theorem dL_law_441 : decode cL_law 441 = .ok (.if_icmp .eq 5, 3) := by decide +kernel
theorem dL_law_444 : decode cL_law 444 = .ok (.iconst 0, 1) := by decide +kernel
theorem dL_law_445 : decode cL_law 445 = .ok (.ireturn, 1) := by decide +kernel
theorem dL_law_446 : decode cL_law 446 = .ok (.iload 5, 2) := by decide +kernel
theorem dL_law_448 : decode cL_law 448 = .ok (.ifCond .ne 15, 3) := by decide +kernel
theorem dL_law_451 : decode cL_law 451 = .ok (.aload_n 3, 1) := by decide +kernel
theorem dL_law_452 : decode cL_law 452 = .ok (.iconst 0, 1) := by decide +kernel
theorem dL_law_453 : decode cL_law 453 = .ok (.laload, 1) := by decide +kernel
theorem dL_law_454 : decode cL_law 454 = .ok (.iload 6, 2) := by decide +kernel
theorem dL_law_456 : decode cL_law 456 = .ok (.i2l, 1) := by decide +kernel
theorem dL_law_457 : decode cL_law 457 = .ok (.lcmp, 1) := by decide +kernel
theorem dL_law_458 : decode cL_law 458 = .ok (.ifCond .eq 5, 3) := by decide +kernel
theorem dL_law_461 : decode cL_law 461 = .ok (.iconst 0, 1) := by decide +kernel
theorem dL_law_462 : decode cL_law 462 = .ok (.ireturn, 1) := by decide +kernel
theorem dL_law_463 : decode cL_law 463 = .ok (.goto 597, 3) := by decide +kernel
theorem dL_law_466 : decode cL_law 466 = .ok (.aload_n 1, 1) := by decide +kernel
theorem dL_law_467 : decode cL_law 467 = .ok (.aload_n 0, 1) := by decide +kernel
theorem dL_law_468 : decode cL_law 468 = .ok (.iload 4, 2) := by decide +kernel
theorem dL_law_470 : decode cL_law 470 = .ok (.iconst 1, 1) := by decide +kernel
theorem dL_law_471 : decode cL_law 471 = .ok (.iadd, 1) := by decide +kernel
theorem dL_law_472 : decode cL_law 472 = .ok (.iaload, 1) := by decide +kernel
theorem dL_law_473 : decode cL_law 473 = .ok (.aload_n 0, 1) := by decide +kernel
theorem dL_law_474 : decode cL_law 474 = .ok (.iload 4, 2) := by decide +kernel
theorem dL_law_476 : decode cL_law 476 = .ok (.iconst 2, 1) := by decide +kernel
theorem dL_law_477 : decode cL_law 477 = .ok (.iadd, 1) := by decide +kernel
theorem dL_law_478 : decode cL_law 478 = .ok (.iaload, 1) := by decide +kernel
theorem dL_law_479 : decode cL_law 479 = .ok (.aload_n 0, 1) := by decide +kernel
theorem dL_law_480 : decode cL_law 480 = .ok (.iload 4, 2) := by decide +kernel
theorem dL_law_482 : decode cL_law 482 = .ok (.iconst 3, 1) := by decide +kernel
theorem dL_law_483 : decode cL_law 483 = .ok (.iadd, 1) := by decide +kernel
theorem dL_law_484 : decode cL_law 484 = .ok (.iaload, 1) := by decide +kernel
theorem dL_law_485 : decode cL_law 485 = .ok (.aload_n 3, 1) := by decide +kernel
theorem dL_law_486 : decode cL_law 486 = .ok (.invokestatic 114, 3) := by decide +kernel
theorem dL_law_489 : decode cL_law 489 = .ok (.istore 5, 2) := by decide +kernel
theorem dL_law_491 : decode cL_law 491 = .ok (.aload_n 2, 1) := by decide +kernel
theorem dL_law_492 : decode cL_law 492 = .ok (.aload_n 0, 1) := by decide +kernel
theorem dL_law_493 : decode cL_law 493 = .ok (.iload 4, 2) := by decide +kernel
theorem dL_law_495 : decode cL_law 495 = .ok (.iconst 1, 1) := by decide +kernel
theorem dL_law_496 : decode cL_law 496 = .ok (.iadd, 1) := by decide +kernel
theorem dL_law_497 : decode cL_law 497 = .ok (.iaload, 1) := by decide +kernel
theorem dL_law_498 : decode cL_law 498 = .ok (.aload_n 0, 1) := by decide +kernel
theorem dL_law_499 : decode cL_law 499 = .ok (.iload 4, 2) := by decide +kernel
theorem dL_law_501 : decode cL_law 501 = .ok (.iconst 2, 1) := by decide +kernel
theorem dL_law_502 : decode cL_law 502 = .ok (.iadd, 1) := by decide +kernel
theorem dL_law_503 : decode cL_law 503 = .ok (.iaload, 1) := by decide +kernel
theorem dL_law_504 : decode cL_law 504 = .ok (.aload_n 0, 1) := by decide +kernel
theorem dL_law_505 : decode cL_law 505 = .ok (.iload 4, 2) := by decide +kernel
theorem dL_law_507 : decode cL_law 507 = .ok (.iconst 3, 1) := by decide +kernel
theorem dL_law_508 : decode cL_law 508 = .ok (.iadd, 1) := by decide +kernel
theorem dL_law_509 : decode cL_law 509 = .ok (.iaload, 1) := by decide +kernel
theorem dL_law_510 : decode cL_law 510 = .ok (.invokevirtual 117, 3) := by decide +kernel
theorem dL_law_513 : decode cL_law 513 = .ok (.istore 6, 2) := by decide +kernel
theorem dL_law_515 : decode cL_law 515 = .ok (.aload_n 2, 1) := by decide +kernel
theorem dL_law_516 : decode cL_law 516 = .ok (.invokevirtual 84, 3) := by decide +kernel
theorem dL_law_519 : decode cL_law 519 = .ok (.iload 5, 2) := by decide +kernel
theorem dL_law_521 : decode cL_law 521 = .ok (.if_icmp .eq 5, 3) := by decide +kernel
theorem dL_law_524 : decode cL_law 524 = .ok (.iconst 0, 1) := by decide +kernel
theorem dL_law_525 : decode cL_law 525 = .ok (.ireturn, 1) := by decide +kernel
theorem dL_law_526 : decode cL_law 526 = .ok (.iload 5, 2) := by decide +kernel
theorem dL_law_528 : decode cL_law 528 = .ok (.ifCond .ne 15, 3) := by decide +kernel
theorem dL_law_531 : decode cL_law 531 = .ok (.aload_n 3, 1) := by decide +kernel
theorem dL_law_532 : decode cL_law 532 = .ok (.iconst 0, 1) := by decide +kernel
theorem dL_law_533 : decode cL_law 533 = .ok (.laload, 1) := by decide +kernel
theorem dL_law_534 : decode cL_law 534 = .ok (.iload 6, 2) := by decide +kernel
theorem dL_law_536 : decode cL_law 536 = .ok (.i2l, 1) := by decide +kernel
theorem dL_law_537 : decode cL_law 537 = .ok (.lcmp, 1) := by decide +kernel
theorem dL_law_538 : decode cL_law 538 = .ok (.ifCond .eq 5, 3) := by decide +kernel
theorem dL_law_541 : decode cL_law 541 = .ok (.iconst 0, 1) := by decide +kernel
theorem dL_law_542 : decode cL_law 542 = .ok (.ireturn, 1) := by decide +kernel
theorem dL_law_543 : decode cL_law 543 = .ok (.goto 517, 3) := by decide +kernel
theorem dL_law_546 : decode cL_law 546 = .ok (.aload_n 1, 1) := by decide +kernel
theorem dL_law_547 : decode cL_law 547 = .ok (.aload_n 0, 1) := by decide +kernel
theorem dL_law_548 : decode cL_law 548 = .ok (.iload 4, 2) := by decide +kernel
theorem dL_law_550 : decode cL_law 550 = .ok (.iconst 1, 1) := by decide +kernel
theorem dL_law_551 : decode cL_law 551 = .ok (.iadd, 1) := by decide +kernel
theorem dL_law_552 : decode cL_law 552 = .ok (.iaload, 1) := by decide +kernel
theorem dL_law_553 : decode cL_law 553 = .ok (.aload_n 3, 1) := by decide +kernel
theorem dL_law_554 : decode cL_law 554 = .ok (.invokestatic 118, 3) := by decide +kernel
theorem dL_law_557 : decode cL_law 557 = .ok (.istore 5, 2) := by decide +kernel
theorem dL_law_559 : decode cL_law 559 = .ok (.aload_n 2, 1) := by decide +kernel
theorem dL_law_560 : decode cL_law 560 = .ok (.aload_n 0, 1) := by decide +kernel
theorem dL_law_561 : decode cL_law 561 = .ok (.iload 4, 2) := by decide +kernel
theorem dL_law_563 : decode cL_law 563 = .ok (.iconst 1, 1) := by decide +kernel
theorem dL_law_564 : decode cL_law 564 = .ok (.iadd, 1) := by decide +kernel
theorem dL_law_565 : decode cL_law 565 = .ok (.iaload, 1) := by decide +kernel
theorem dL_law_566 : decode cL_law 566 = .ok (.invokevirtual 120, 3) := by decide +kernel
theorem dL_law_569 : decode cL_law 569 = .ok (.istore 6, 2) := by decide +kernel
theorem dL_law_571 : decode cL_law 571 = .ok (.aload_n 2, 1) := by decide +kernel
theorem dL_law_572 : decode cL_law 572 = .ok (.invokevirtual 84, 3) := by decide +kernel
theorem dL_law_575 : decode cL_law 575 = .ok (.iload 5, 2) := by decide +kernel
theorem dL_law_577 : decode cL_law 577 = .ok (.if_icmp .eq 5, 3) := by decide +kernel
theorem dL_law_580 : decode cL_law 580 = .ok (.iconst 0, 1) := by decide +kernel
theorem dL_law_581 : decode cL_law 581 = .ok (.ireturn, 1) := by decide +kernel
theorem dL_law_582 : decode cL_law 582 = .ok (.iload 5, 2) := by decide +kernel
theorem dL_law_584 : decode cL_law 584 = .ok (.ifCond .ne 22, 3) := by decide +kernel
theorem dL_law_587 : decode cL_law 587 = .ok (.aload_n 3, 1) := by decide +kernel
theorem dL_law_588 : decode cL_law 588 = .ok (.iconst 0, 1) := by decide +kernel
theorem dL_law_589 : decode cL_law 589 = .ok (.laload, 1) := by decide +kernel
theorem dL_law_590 : decode cL_law 590 = .ok (.iload 6, 2) := by decide +kernel
theorem dL_law_592 : decode cL_law 592 = .ok (.ifCond .eq 7, 3) := by decide +kernel
theorem dL_law_595 : decode cL_law 595 = .ok (.lconst 1, 1) := by decide +kernel
theorem dL_law_596 : decode cL_law 596 = .ok (.goto 4, 3) := by decide +kernel
theorem dL_law_599 : decode cL_law 599 = .ok (.lconst 0, 1) := by decide +kernel
theorem dL_law_600 : decode cL_law 600 = .ok (.lcmp, 1) := by decide +kernel
theorem dL_law_601 : decode cL_law 601 = .ok (.ifCond .eq 5, 3) := by decide +kernel
theorem dL_law_604 : decode cL_law 604 = .ok (.iconst 0, 1) := by decide +kernel
theorem dL_law_605 : decode cL_law 605 = .ok (.ireturn, 1) := by decide +kernel
theorem dL_law_606 : decode cL_law 606 = .ok (.goto 454, 3) := by decide +kernel
theorem dL_law_609 : decode cL_law 609 = .ok (.aload_n 1, 1) := by decide +kernel
theorem dL_law_610 : decode cL_law 610 = .ok (.aload_n 0, 1) := by decide +kernel
theorem dL_law_611 : decode cL_law 611 = .ok (.iload 4, 2) := by decide +kernel
theorem dL_law_613 : decode cL_law 613 = .ok (.iconst 1, 1) := by decide +kernel
theorem dL_law_614 : decode cL_law 614 = .ok (.iadd, 1) := by decide +kernel
theorem dL_law_615 : decode cL_law 615 = .ok (.iaload, 1) := by decide +kernel
theorem dL_law_616 : decode cL_law 616 = .ok (.aload_n 0, 1) := by decide +kernel
theorem dL_law_617 : decode cL_law 617 = .ok (.iload 4, 2) := by decide +kernel
theorem dL_law_619 : decode cL_law 619 = .ok (.iconst 2, 1) := by decide +kernel
theorem dL_law_620 : decode cL_law 620 = .ok (.iadd, 1) := by decide +kernel
theorem dL_law_621 : decode cL_law 621 = .ok (.iaload, 1) := by decide +kernel
theorem dL_law_622 : decode cL_law 622 = .ok (.aload_n 0, 1) := by decide +kernel
theorem dL_law_623 : decode cL_law 623 = .ok (.iload 4, 2) := by decide +kernel
theorem dL_law_625 : decode cL_law 625 = .ok (.iconst 3, 1) := by decide +kernel
theorem dL_law_626 : decode cL_law 626 = .ok (.iadd, 1) := by decide +kernel
theorem dL_law_627 : decode cL_law 627 = .ok (.iaload, 1) := by decide +kernel
theorem dL_law_628 : decode cL_law 628 = .ok (.invokestatic 121, 3) := by decide +kernel
theorem dL_law_631 : decode cL_law 631 = .ok (.istore 5, 2) := by decide +kernel
theorem dL_law_633 : decode cL_law 633 = .ok (.aload_n 2, 1) := by decide +kernel
theorem dL_law_634 : decode cL_law 634 = .ok (.aload_n 0, 1) := by decide +kernel
theorem dL_law_635 : decode cL_law 635 = .ok (.iload 4, 2) := by decide +kernel
theorem dL_law_637 : decode cL_law 637 = .ok (.iconst 1, 1) := by decide +kernel
theorem dL_law_638 : decode cL_law 638 = .ok (.iadd, 1) := by decide +kernel
theorem dL_law_639 : decode cL_law 639 = .ok (.iaload, 1) := by decide +kernel
theorem dL_law_640 : decode cL_law 640 = .ok (.aload_n 0, 1) := by decide +kernel
theorem dL_law_641 : decode cL_law 641 = .ok (.iload 4, 2) := by decide +kernel
theorem dL_law_643 : decode cL_law 643 = .ok (.iconst 2, 1) := by decide +kernel
theorem dL_law_644 : decode cL_law 644 = .ok (.iadd, 1) := by decide +kernel
theorem dL_law_645 : decode cL_law 645 = .ok (.iaload, 1) := by decide +kernel
theorem dL_law_646 : decode cL_law 646 = .ok (.aload_n 0, 1) := by decide +kernel
theorem dL_law_647 : decode cL_law 647 = .ok (.iload 4, 2) := by decide +kernel
theorem dL_law_649 : decode cL_law 649 = .ok (.iconst 3, 1) := by decide +kernel
theorem dL_law_650 : decode cL_law 650 = .ok (.iadd, 1) := by decide +kernel
theorem dL_law_651 : decode cL_law 651 = .ok (.iaload, 1) := by decide +kernel
theorem dL_law_652 : decode cL_law 652 = .ok (.invokevirtual 124, 3) := by decide +kernel
theorem dL_law_655 : decode cL_law 655 = .ok (.aload_n 2, 1) := by decide +kernel
theorem dL_law_656 : decode cL_law 656 = .ok (.invokevirtual 84, 3) := by decide +kernel
theorem dL_law_659 : decode cL_law 659 = .ok (.iload 5, 2) := by decide +kernel
theorem dL_law_661 : decode cL_law 661 = .ok (.if_icmp .eq 5, 3) := by decide +kernel
theorem dL_law_664 : decode cL_law 664 = .ok (.iconst 0, 1) := by decide +kernel
theorem dL_law_665 : decode cL_law 665 = .ok (.ireturn, 1) := by decide +kernel
theorem dL_law_666 : decode cL_law 666 = .ok (.goto 394, 3) := by decide +kernel
theorem dL_law_669 : decode cL_law 669 = .ok (.aload_n 1, 1) := by decide +kernel
theorem dL_law_670 : decode cL_law 670 = .ok (.aload_n 0, 1) := by decide +kernel
theorem dL_law_671 : decode cL_law 671 = .ok (.iload 4, 2) := by decide +kernel
theorem dL_law_673 : decode cL_law 673 = .ok (.iconst 1, 1) := by decide +kernel
theorem dL_law_674 : decode cL_law 674 = .ok (.iadd, 1) := by decide +kernel
theorem dL_law_675 : decode cL_law 675 = .ok (.iaload, 1) := by decide +kernel
theorem dL_law_676 : decode cL_law 676 = .ok (.aload_n 0, 1) := by decide +kernel
theorem dL_law_677 : decode cL_law 677 = .ok (.iload 4, 2) := by decide +kernel
theorem dL_law_679 : decode cL_law 679 = .ok (.iconst 2, 1) := by decide +kernel
theorem dL_law_680 : decode cL_law 680 = .ok (.iadd, 1) := by decide +kernel
theorem dL_law_681 : decode cL_law 681 = .ok (.iaload, 1) := by decide +kernel
theorem dL_law_682 : decode cL_law 682 = .ok (.aload_n 3, 1) := by decide +kernel
theorem dL_law_683 : decode cL_law 683 = .ok (.invokestatic 125, 3) := by decide +kernel
theorem dL_law_686 : decode cL_law 686 = .ok (.istore 5, 2) := by decide +kernel
theorem dL_law_688 : decode cL_law 688 = .ok (.aload_n 2, 1) := by decide +kernel
theorem dL_law_689 : decode cL_law 689 = .ok (.aload_n 0, 1) := by decide +kernel
theorem dL_law_690 : decode cL_law 690 = .ok (.iload 4, 2) := by decide +kernel
theorem dL_law_692 : decode cL_law 692 = .ok (.iconst 1, 1) := by decide +kernel
theorem dL_law_693 : decode cL_law 693 = .ok (.iadd, 1) := by decide +kernel
theorem dL_law_694 : decode cL_law 694 = .ok (.iaload, 1) := by decide +kernel
theorem dL_law_695 : decode cL_law 695 = .ok (.aload_n 0, 1) := by decide +kernel
theorem dL_law_696 : decode cL_law 696 = .ok (.iload 4, 2) := by decide +kernel
theorem dL_law_698 : decode cL_law 698 = .ok (.iconst 2, 1) := by decide +kernel
theorem dL_law_699 : decode cL_law 699 = .ok (.iadd, 1) := by decide +kernel
theorem dL_law_700 : decode cL_law 700 = .ok (.iaload, 1) := by decide +kernel
theorem dL_law_701 : decode cL_law 701 = .ok (.invokevirtual 127, 3) := by decide +kernel
theorem dL_law_704 : decode cL_law 704 = .ok (.lstore 6, 2) := by decide +kernel
theorem dL_law_706 : decode cL_law 706 = .ok (.aload_n 2, 1) := by decide +kernel
theorem dL_law_707 : decode cL_law 707 = .ok (.invokevirtual 84, 3) := by decide +kernel
theorem dL_law_710 : decode cL_law 710 = .ok (.iload 5, 2) := by decide +kernel
theorem dL_law_712 : decode cL_law 712 = .ok (.if_icmp .eq 5, 3) := by decide +kernel
theorem dL_law_715 : decode cL_law 715 = .ok (.iconst 0, 1) := by decide +kernel
theorem dL_law_716 : decode cL_law 716 = .ok (.ireturn, 1) := by decide +kernel
theorem dL_law_717 : decode cL_law 717 = .ok (.iload 5, 2) := by decide +kernel
theorem dL_law_719 : decode cL_law 719 = .ok (.ifCond .ne 14, 3) := by decide +kernel
theorem dL_law_722 : decode cL_law 722 = .ok (.aload_n 3, 1) := by decide +kernel
theorem dL_law_723 : decode cL_law 723 = .ok (.iconst 0, 1) := by decide +kernel
theorem dL_law_724 : decode cL_law 724 = .ok (.laload, 1) := by decide +kernel
theorem dL_law_725 : decode cL_law 725 = .ok (.lload 6, 2) := by decide +kernel
theorem dL_law_727 : decode cL_law 727 = .ok (.lcmp, 1) := by decide +kernel
theorem dL_law_728 : decode cL_law 728 = .ok (.ifCond .eq 5, 3) := by decide +kernel
theorem dL_law_731 : decode cL_law 731 = .ok (.iconst 0, 1) := by decide +kernel
theorem dL_law_732 : decode cL_law 732 = .ok (.ireturn, 1) := by decide +kernel
theorem dL_law_733 : decode cL_law 733 = .ok (.goto 327, 3) := by decide +kernel
theorem dL_law_736 : decode cL_law 736 = .ok (.aload_n 1, 1) := by decide +kernel
theorem dL_law_737 : decode cL_law 737 = .ok (.aload_n 0, 1) := by decide +kernel
theorem dL_law_738 : decode cL_law 738 = .ok (.iload 4, 2) := by decide +kernel
theorem dL_law_740 : decode cL_law 740 = .ok (.iconst 1, 1) := by decide +kernel
theorem dL_law_741 : decode cL_law 741 = .ok (.iadd, 1) := by decide +kernel
theorem dL_law_742 : decode cL_law 742 = .ok (.iaload, 1) := by decide +kernel
theorem dL_law_743 : decode cL_law 743 = .ok (.aload_n 0, 1) := by decide +kernel
theorem dL_law_744 : decode cL_law 744 = .ok (.iload 4, 2) := by decide +kernel
theorem dL_law_746 : decode cL_law 746 = .ok (.iconst 2, 1) := by decide +kernel
theorem dL_law_747 : decode cL_law 747 = .ok (.iadd, 1) := by decide +kernel
theorem dL_law_748 : decode cL_law 748 = .ok (.iaload, 1) := by decide +kernel
theorem dL_law_749 : decode cL_law 749 = .ok (.invokestatic 128, 3) := by decide +kernel
theorem dL_law_752 : decode cL_law 752 = .ok (.istore 5, 2) := by decide +kernel
theorem dL_law_754 : decode cL_law 754 = .ok (.aload_n 2, 1) := by decide +kernel
theorem dL_law_755 : decode cL_law 755 = .ok (.aload_n 0, 1) := by decide +kernel
theorem dL_law_756 : decode cL_law 756 = .ok (.iload 4, 2) := by decide +kernel
theorem dL_law_758 : decode cL_law 758 = .ok (.iconst 1, 1) := by decide +kernel
theorem dL_law_759 : decode cL_law 759 = .ok (.iadd, 1) := by decide +kernel
theorem dL_law_760 : decode cL_law 760 = .ok (.iaload, 1) := by decide +kernel
theorem dL_law_761 : decode cL_law 761 = .ok (.aload_n 0, 1) := by decide +kernel
theorem dL_law_762 : decode cL_law 762 = .ok (.iload 4, 2) := by decide +kernel
theorem dL_law_764 : decode cL_law 764 = .ok (.iconst 2, 1) := by decide +kernel
theorem dL_law_765 : decode cL_law 765 = .ok (.iadd, 1) := by decide +kernel
theorem dL_law_766 : decode cL_law 766 = .ok (.iaload, 1) := by decide +kernel
theorem dL_law_767 : decode cL_law 767 = .ok (.invokevirtual 131, 3) := by decide +kernel
theorem dL_law_770 : decode cL_law 770 = .ok (.aload_n 2, 1) := by decide +kernel
theorem dL_law_771 : decode cL_law 771 = .ok (.invokevirtual 84, 3) := by decide +kernel
theorem dL_law_774 : decode cL_law 774 = .ok (.iload 5, 2) := by decide +kernel
theorem dL_law_776 : decode cL_law 776 = .ok (.if_icmp .eq 5, 3) := by decide +kernel
theorem dL_law_779 : decode cL_law 779 = .ok (.iconst 0, 1) := by decide +kernel
theorem dL_law_780 : decode cL_law 780 = .ok (.ireturn, 1) := by decide +kernel
theorem dL_law_781 : decode cL_law 781 = .ok (.goto 279, 3) := by decide +kernel
theorem dL_law_784 : decode cL_law 784 = .ok (.aload_n 1, 1) := by decide +kernel
theorem dL_law_785 : decode cL_law 785 = .ok (.aload_n 0, 1) := by decide +kernel
theorem dL_law_786 : decode cL_law 786 = .ok (.iload 4, 2) := by decide +kernel
theorem dL_law_788 : decode cL_law 788 = .ok (.iconst 1, 1) := by decide +kernel
theorem dL_law_789 : decode cL_law 789 = .ok (.iadd, 1) := by decide +kernel
theorem dL_law_790 : decode cL_law 790 = .ok (.iaload, 1) := by decide +kernel
theorem dL_law_791 : decode cL_law 791 = .ok (.aload_n 0, 1) := by decide +kernel
theorem dL_law_792 : decode cL_law 792 = .ok (.iload 4, 2) := by decide +kernel
theorem dL_law_794 : decode cL_law 794 = .ok (.iconst 2, 1) := by decide +kernel
theorem dL_law_795 : decode cL_law 795 = .ok (.iadd, 1) := by decide +kernel
theorem dL_law_796 : decode cL_law 796 = .ok (.iaload, 1) := by decide +kernel
theorem dL_law_797 : decode cL_law 797 = .ok (.aload_n 0, 1) := by decide +kernel
theorem dL_law_798 : decode cL_law 798 = .ok (.iload 4, 2) := by decide +kernel
theorem dL_law_800 : decode cL_law 800 = .ok (.iconst 3, 1) := by decide +kernel
theorem dL_law_801 : decode cL_law 801 = .ok (.iadd, 1) := by decide +kernel
theorem dL_law_802 : decode cL_law 802 = .ok (.iaload, 1) := by decide +kernel
theorem dL_law_803 : decode cL_law 803 = .ok (.invokestatic 132, 3) := by decide +kernel
theorem dL_law_806 : decode cL_law 806 = .ok (.istore 5, 2) := by decide +kernel
theorem dL_law_808 : decode cL_law 808 = .ok (.aload_n 2, 1) := by decide +kernel
theorem dL_law_809 : decode cL_law 809 = .ok (.aload_n 0, 1) := by decide +kernel
theorem dL_law_810 : decode cL_law 810 = .ok (.iload 4, 2) := by decide +kernel
theorem dL_law_812 : decode cL_law 812 = .ok (.iconst 1, 1) := by decide +kernel
theorem dL_law_813 : decode cL_law 813 = .ok (.iadd, 1) := by decide +kernel
theorem dL_law_814 : decode cL_law 814 = .ok (.iaload, 1) := by decide +kernel
theorem dL_law_815 : decode cL_law 815 = .ok (.aload_n 0, 1) := by decide +kernel
theorem dL_law_816 : decode cL_law 816 = .ok (.iload 4, 2) := by decide +kernel
theorem dL_law_818 : decode cL_law 818 = .ok (.iconst 2, 1) := by decide +kernel
theorem dL_law_819 : decode cL_law 819 = .ok (.iadd, 1) := by decide +kernel
theorem dL_law_820 : decode cL_law 820 = .ok (.iaload, 1) := by decide +kernel
theorem dL_law_821 : decode cL_law 821 = .ok (.aload_n 0, 1) := by decide +kernel
theorem dL_law_822 : decode cL_law 822 = .ok (.iload 4, 2) := by decide +kernel
theorem dL_law_824 : decode cL_law 824 = .ok (.iconst 3, 1) := by decide +kernel
theorem dL_law_825 : decode cL_law 825 = .ok (.iadd, 1) := by decide +kernel
theorem dL_law_826 : decode cL_law 826 = .ok (.iaload, 1) := by decide +kernel
theorem dL_law_827 : decode cL_law 827 = .ok (.invokevirtual 134, 3) := by decide +kernel
theorem dL_law_830 : decode cL_law 830 = .ok (.aload_n 2, 1) := by decide +kernel
theorem dL_law_831 : decode cL_law 831 = .ok (.invokevirtual 84, 3) := by decide +kernel
theorem dL_law_834 : decode cL_law 834 = .ok (.iload 5, 2) := by decide +kernel
theorem dL_law_836 : decode cL_law 836 = .ok (.if_icmp .eq 5, 3) := by decide +kernel
theorem dL_law_839 : decode cL_law 839 = .ok (.iconst 0, 1) := by decide +kernel
theorem dL_law_840 : decode cL_law 840 = .ok (.ireturn, 1) := by decide +kernel
theorem dL_law_841 : decode cL_law 841 = .ok (.goto 219, 3) := by decide +kernel
theorem dL_law_844 : decode cL_law 844 = .ok (.aload_n 1, 1) := by decide +kernel
theorem dL_law_845 : decode cL_law 845 = .ok (.aload_n 0, 1) := by decide +kernel
theorem dL_law_846 : decode cL_law 846 = .ok (.iload 4, 2) := by decide +kernel
theorem dL_law_848 : decode cL_law 848 = .ok (.iconst 1, 1) := by decide +kernel
theorem dL_law_849 : decode cL_law 849 = .ok (.iadd, 1) := by decide +kernel
theorem dL_law_850 : decode cL_law 850 = .ok (.iaload, 1) := by decide +kernel
theorem dL_law_851 : decode cL_law 851 = .ok (.aload_n 0, 1) := by decide +kernel
theorem dL_law_852 : decode cL_law 852 = .ok (.iload 4, 2) := by decide +kernel
theorem dL_law_854 : decode cL_law 854 = .ok (.iconst 2, 1) := by decide +kernel
theorem dL_law_855 : decode cL_law 855 = .ok (.iadd, 1) := by decide +kernel
theorem dL_law_856 : decode cL_law 856 = .ok (.iaload, 1) := by decide +kernel
theorem dL_law_857 : decode cL_law 857 = .ok (.aload_n 0, 1) := by decide +kernel
theorem dL_law_858 : decode cL_law 858 = .ok (.iload 4, 2) := by decide +kernel
theorem dL_law_860 : decode cL_law 860 = .ok (.iconst 3, 1) := by decide +kernel
theorem dL_law_861 : decode cL_law 861 = .ok (.iadd, 1) := by decide +kernel
theorem dL_law_862 : decode cL_law 862 = .ok (.iaload, 1) := by decide +kernel
theorem dL_law_863 : decode cL_law 863 = .ok (.invokestatic 135, 3) := by decide +kernel
theorem dL_law_866 : decode cL_law 866 = .ok (.istore 5, 2) := by decide +kernel
theorem dL_law_868 : decode cL_law 868 = .ok (.aload_n 2, 1) := by decide +kernel
theorem dL_law_869 : decode cL_law 869 = .ok (.aload_n 0, 1) := by decide +kernel
theorem dL_law_870 : decode cL_law 870 = .ok (.iload 4, 2) := by decide +kernel
theorem dL_law_872 : decode cL_law 872 = .ok (.iconst 1, 1) := by decide +kernel
theorem dL_law_873 : decode cL_law 873 = .ok (.iadd, 1) := by decide +kernel
theorem dL_law_874 : decode cL_law 874 = .ok (.iaload, 1) := by decide +kernel
theorem dL_law_875 : decode cL_law 875 = .ok (.aload_n 0, 1) := by decide +kernel
theorem dL_law_876 : decode cL_law 876 = .ok (.iload 4, 2) := by decide +kernel
theorem dL_law_878 : decode cL_law 878 = .ok (.iconst 2, 1) := by decide +kernel
theorem dL_law_879 : decode cL_law 879 = .ok (.iadd, 1) := by decide +kernel
theorem dL_law_880 : decode cL_law 880 = .ok (.iaload, 1) := by decide +kernel
theorem dL_law_881 : decode cL_law 881 = .ok (.aload_n 0, 1) := by decide +kernel
theorem dL_law_882 : decode cL_law 882 = .ok (.iload 4, 2) := by decide +kernel
theorem dL_law_884 : decode cL_law 884 = .ok (.iconst 3, 1) := by decide +kernel
theorem dL_law_885 : decode cL_law 885 = .ok (.iadd, 1) := by decide +kernel
theorem dL_law_886 : decode cL_law 886 = .ok (.iaload, 1) := by decide +kernel
theorem dL_law_887 : decode cL_law 887 = .ok (.invokevirtual 137, 3) := by decide +kernel
theorem dL_law_890 : decode cL_law 890 = .ok (.aload_n 2, 1) := by decide +kernel
theorem dL_law_891 : decode cL_law 891 = .ok (.invokevirtual 84, 3) := by decide +kernel
theorem dL_law_894 : decode cL_law 894 = .ok (.iload 5, 2) := by decide +kernel
theorem dL_law_896 : decode cL_law 896 = .ok (.if_icmp .eq 5, 3) := by decide +kernel
theorem dL_law_899 : decode cL_law 899 = .ok (.iconst 0, 1) := by decide +kernel
theorem dL_law_900 : decode cL_law 900 = .ok (.ireturn, 1) := by decide +kernel
theorem dL_law_901 : decode cL_law 901 = .ok (.goto 159, 3) := by decide +kernel
theorem dL_law_904 : decode cL_law 904 = .ok (.aload_n 1, 1) := by decide +kernel
theorem dL_law_905 : decode cL_law 905 = .ok (.aload_n 0, 1) := by decide +kernel
theorem dL_law_906 : decode cL_law 906 = .ok (.iload 4, 2) := by decide +kernel
theorem dL_law_908 : decode cL_law 908 = .ok (.iconst 1, 1) := by decide +kernel
theorem dL_law_909 : decode cL_law 909 = .ok (.iadd, 1) := by decide +kernel
theorem dL_law_910 : decode cL_law 910 = .ok (.iaload, 1) := by decide +kernel
theorem dL_law_911 : decode cL_law 911 = .ok (.aload_n 3, 1) := by decide +kernel
theorem dL_law_912 : decode cL_law 912 = .ok (.invokestatic 138, 3) := by decide +kernel
theorem dL_law_915 : decode cL_law 915 = .ok (.istore 5, 2) := by decide +kernel
theorem dL_law_917 : decode cL_law 917 = .ok (.aload_n 2, 1) := by decide +kernel
theorem dL_law_918 : decode cL_law 918 = .ok (.aload_n 0, 1) := by decide +kernel
theorem dL_law_919 : decode cL_law 919 = .ok (.iload 4, 2) := by decide +kernel
theorem dL_law_921 : decode cL_law 921 = .ok (.iconst 1, 1) := by decide +kernel
theorem dL_law_922 : decode cL_law 922 = .ok (.iadd, 1) := by decide +kernel
theorem dL_law_923 : decode cL_law 923 = .ok (.iaload, 1) := by decide +kernel
theorem dL_law_924 : decode cL_law 924 = .ok (.invokevirtual 140, 3) := by decide +kernel
theorem dL_law_927 : decode cL_law 927 = .ok (.istore 6, 2) := by decide +kernel
theorem dL_law_929 : decode cL_law 929 = .ok (.aload_n 2, 1) := by decide +kernel
theorem dL_law_930 : decode cL_law 930 = .ok (.invokevirtual 84, 3) := by decide +kernel
theorem dL_law_933 : decode cL_law 933 = .ok (.iload 5, 2) := by decide +kernel
theorem dL_law_935 : decode cL_law 935 = .ok (.if_icmp .eq 5, 3) := by decide +kernel
theorem dL_law_938 : decode cL_law 938 = .ok (.iconst 0, 1) := by decide +kernel
theorem dL_law_939 : decode cL_law 939 = .ok (.ireturn, 1) := by decide +kernel
theorem dL_law_940 : decode cL_law 940 = .ok (.iload 5, 2) := by decide +kernel
theorem dL_law_942 : decode cL_law 942 = .ok (.ifCond .ne 15, 3) := by decide +kernel
theorem dL_law_945 : decode cL_law 945 = .ok (.aload_n 3, 1) := by decide +kernel
theorem dL_law_946 : decode cL_law 946 = .ok (.iconst 0, 1) := by decide +kernel
theorem dL_law_947 : decode cL_law 947 = .ok (.laload, 1) := by decide +kernel
theorem dL_law_948 : decode cL_law 948 = .ok (.iload 6, 2) := by decide +kernel
theorem dL_law_950 : decode cL_law 950 = .ok (.i2l, 1) := by decide +kernel
theorem dL_law_951 : decode cL_law 951 = .ok (.lcmp, 1) := by decide +kernel
theorem dL_law_952 : decode cL_law 952 = .ok (.ifCond .eq 5, 3) := by decide +kernel
theorem dL_law_955 : decode cL_law 955 = .ok (.iconst 0, 1) := by decide +kernel
theorem dL_law_956 : decode cL_law 956 = .ok (.ireturn, 1) := by decide +kernel
theorem dL_law_957 : decode cL_law 957 = .ok (.goto 103, 3) := by decide +kernel
theorem dL_law_960 : decode cL_law 960 = .ok (.aload_n 1, 1) := by decide +kernel
theorem dL_law_961 : decode cL_law 961 = .ok (.aload_n 0, 1) := by decide +kernel
theorem dL_law_962 : decode cL_law 962 = .ok (.iload 4, 2) := by decide +kernel
theorem dL_law_964 : decode cL_law 964 = .ok (.iconst 1, 1) := by decide +kernel
theorem dL_law_965 : decode cL_law 965 = .ok (.iadd, 1) := by decide +kernel
theorem dL_law_966 : decode cL_law 966 = .ok (.iaload, 1) := by decide +kernel
theorem dL_law_967 : decode cL_law 967 = .ok (.aload_n 3, 1) := by decide +kernel
theorem dL_law_968 : decode cL_law 968 = .ok (.invokestatic 141, 3) := by decide +kernel
theorem dL_law_971 : decode cL_law 971 = .ok (.istore 5, 2) := by decide +kernel
theorem dL_law_973 : decode cL_law 973 = .ok (.aload_n 2, 1) := by decide +kernel
theorem dL_law_974 : decode cL_law 974 = .ok (.aload_n 0, 1) := by decide +kernel
theorem dL_law_975 : decode cL_law 975 = .ok (.iload 4, 2) := by decide +kernel
theorem dL_law_977 : decode cL_law 977 = .ok (.iconst 1, 1) := by decide +kernel
theorem dL_law_978 : decode cL_law 978 = .ok (.iadd, 1) := by decide +kernel
theorem dL_law_979 : decode cL_law 979 = .ok (.iaload, 1) := by decide +kernel
theorem dL_law_980 : decode cL_law 980 = .ok (.invokevirtual 143, 3) := by decide +kernel
theorem dL_law_983 : decode cL_law 983 = .ok (.istore 6, 2) := by decide +kernel
theorem dL_law_985 : decode cL_law 985 = .ok (.aload_n 2, 1) := by decide +kernel
theorem dL_law_986 : decode cL_law 986 = .ok (.invokevirtual 84, 3) := by decide +kernel
theorem dL_law_989 : decode cL_law 989 = .ok (.iload 5, 2) := by decide +kernel
theorem dL_law_991 : decode cL_law 991 = .ok (.if_icmp .eq 5, 3) := by decide +kernel
theorem dL_law_994 : decode cL_law 994 = .ok (.iconst 0, 1) := by decide +kernel
theorem dL_law_995 : decode cL_law 995 = .ok (.ireturn, 1) := by decide +kernel
theorem dL_law_996 : decode cL_law 996 = .ok (.iload 5, 2) := by decide +kernel
theorem dL_law_998 : decode cL_law 998 = .ok (.ifCond .ne 15, 3) := by decide +kernel
theorem dL_law_1001 : decode cL_law 1001 = .ok (.aload_n 3, 1) := by decide +kernel
theorem dL_law_1002 : decode cL_law 1002 = .ok (.iconst 0, 1) := by decide +kernel
theorem dL_law_1003 : decode cL_law 1003 = .ok (.laload, 1) := by decide +kernel
theorem dL_law_1004 : decode cL_law 1004 = .ok (.iload 6, 2) := by decide +kernel
theorem dL_law_1006 : decode cL_law 1006 = .ok (.i2l, 1) := by decide +kernel
theorem dL_law_1007 : decode cL_law 1007 = .ok (.lcmp, 1) := by decide +kernel
theorem dL_law_1008 : decode cL_law 1008 = .ok (.ifCond .eq 5, 3) := by decide +kernel
theorem dL_law_1011 : decode cL_law 1011 = .ok (.iconst 0, 1) := by decide +kernel
theorem dL_law_1012 : decode cL_law 1012 = .ok (.ireturn, 1) := by decide +kernel
theorem dL_law_1013 : decode cL_law 1013 = .ok (.goto 47, 3) := by decide +kernel
theorem dL_law_1016 : decode cL_law 1016 = .ok (.aload_n 1, 1) := by decide +kernel
theorem dL_law_1017 : decode cL_law 1017 = .ok (.aload_n 3, 1) := by decide +kernel
theorem dL_law_1018 : decode cL_law 1018 = .ok (.invokestatic 144, 3) := by decide +kernel
theorem dL_law_1021 : decode cL_law 1021 = .ok (.istore 5, 2) := by decide +kernel
theorem dL_law_1023 : decode cL_law 1023 = .ok (.aload_n 2, 1) := by decide +kernel
theorem dL_law_1024 : decode cL_law 1024 = .ok (.invokevirtual 146, 3) := by decide +kernel
theorem dL_law_1027 : decode cL_law 1027 = .ok (.istore 6, 2) := by decide +kernel
theorem dL_law_1029 : decode cL_law 1029 = .ok (.aload_n 2, 1) := by decide +kernel
theorem dL_law_1030 : decode cL_law 1030 = .ok (.invokevirtual 84, 3) := by decide +kernel
theorem dL_law_1033 : decode cL_law 1033 = .ok (.iload 5, 2) := by decide +kernel
theorem dL_law_1035 : decode cL_law 1035 = .ok (.if_icmp .eq 5, 3) := by decide +kernel
theorem dL_law_1038 : decode cL_law 1038 = .ok (.iconst 0, 1) := by decide +kernel
theorem dL_law_1039 : decode cL_law 1039 = .ok (.ireturn, 1) := by decide +kernel
theorem dL_law_1040 : decode cL_law 1040 = .ok (.iload 5, 2) := by decide +kernel
theorem dL_law_1042 : decode cL_law 1042 = .ok (.ifCond .ne 15, 3) := by decide +kernel
theorem dL_law_1045 : decode cL_law 1045 = .ok (.aload_n 3, 1) := by decide +kernel
theorem dL_law_1046 : decode cL_law 1046 = .ok (.iconst 0, 1) := by decide +kernel
theorem dL_law_1047 : decode cL_law 1047 = .ok (.laload, 1) := by decide +kernel
theorem dL_law_1048 : decode cL_law 1048 = .ok (.iload 6, 2) := by decide +kernel
theorem dL_law_1050 : decode cL_law 1050 = .ok (.i2l, 1) := by decide +kernel
theorem dL_law_1051 : decode cL_law 1051 = .ok (.lcmp, 1) := by decide +kernel
theorem dL_law_1052 : decode cL_law 1052 = .ok (.ifCond .eq 5, 3) := by decide +kernel
theorem dL_law_1055 : decode cL_law 1055 = .ok (.iconst 0, 1) := by decide +kernel
theorem dL_law_1056 : decode cL_law 1056 = .ok (.ireturn, 1) := by decide +kernel
theorem dL_law_1057 : decode cL_law 1057 = .ok (.goto 3, 3) := by decide +kernel
theorem dL_law_1060 : decode cL_law 1060 = .ok (.iinc 4 4, 3) := by decide +kernel
theorem dL_law_1063 : decode cL_law 1063 = .ok (.goto (-1040), 3) := by decide +kernel
theorem dL_law_1066 : decode cL_law 1066 = .ok (.iconst 1, 1) := by decide +kernel
theorem dL_law_1067 : decode cL_law 1067 = .ok (.ireturn, 1) := by decide +kernel
end
section
/-! numbers: ints and longs of the machine by whole numbers -/
def qI (z : Int) : Int32 := Int32.ofInt z
def qL (z : Int) : Int64 := Int64.ofInt z
abbrev r32 (z : Int) : Prop := -2147483648 ≤ z ∧ z < 2147483648
abbrev r64 (z : Int) : Prop := -9223372036854775808 ≤ z ∧ z < 9223372036854775808
theorem qI_int {z : Int} (h : r32 z) : (qI z).toInt = z := Int32.toInt_ofInt_of_le (by have := h.1; omega) (by have := h.2; omega)
theorem qL_int {z : Int} (h : r64 z) : (qL z).toInt = z := Int64.toInt_ofInt_of_le (by have := h.1; omega) (by have := h.2; omega)
theorem qI_rng (v : Int32) : r32 v.toInt := ⟨by have := Int32.le_toInt v; omega, by have := Int32.toInt_lt v; omega⟩
theorem qL_rng (v : Int64) : r64 v.toInt := ⟨by have := Int64.le_toInt v; omega, by have := Int64.toInt_lt v; omega⟩
theorem qI_of (v : Int32) : v = qI v.toInt := (Int32.ofInt_toInt v).symm
theorem qL_of (v : Int64) : v = qL v.toInt := (Int64.ofInt_toInt v).symm
theorem qI_ex (v : Int32) : ∃ z, r32 z ∧ v = qI z := ⟨_, qI_rng v, qI_of v⟩
theorem qL_ex (v : Int64) : ∃ z, r64 z ∧ v = qL z := ⟨_, qL_rng v, qL_of v⟩
theorem qI_add (x y : Int) : qI x + qI y = qI (x + y) := (Int32.ofInt_add x y).symm
theorem qI_sub (x y : Int) : qI x - qI y = qI (x - y) := (Int32.ofInt_sub x y).symm
theorem qI_mul (x y : Int) : qI x * qI y = qI (x * y) := (Int32.ofInt_mul x y).symm
theorem qI_neg (x : Int) : - qI x = qI (-x) := (Int32.ofInt_neg x).symm
theorem qL_add (x y : Int) : qL x + qL y = qL (x + y) := (Int64.ofInt_add x y).symm
theorem qL_sub (x y : Int) : qL x - qL y = qL (x - y) := (Int64.ofInt_sub x y).symm
theorem qL_mul (x y : Int) : qL x * qL y = qL (x * y) := (Int64.ofInt_mul x y).symm
theorem qL_neg (x : Int) : - qL x = qL (-x) := (Int64.ofInt_neg x).symm
theorem qI_eq {x y : Int} (hx : r32 x) (hy : r32 y) : qI x = qI y ↔ x = y := by rw [← Int32.toInt_inj, qI_int hx, qI_int hy]
theorem qI_lt {x y : Int} (hx : r32 x) (hy : r32 y) : qI x < qI y ↔ x < y := by rw [Int32.lt_iff_toInt_lt, qI_int hx, qI_int hy]
theorem qI_le {x y : Int} (hx : r32 x) (hy : r32 y) : qI x ≤ qI y ↔ x ≤ y := by rw [Int32.le_iff_toInt_le, qI_int hx, qI_int hy]
theorem qL_eq {x y : Int} (hx : r64 x) (hy : r64 y) : qL x = qL y ↔ x = y := by rw [← Int64.toInt_inj, qL_int hx, qL_int hy]
theorem qL_lt {x y : Int} (hx : r64 x) (hy : r64 y) : qL x < qL y ↔ x < y := by rw [Int64.lt_iff_toInt_lt, qL_int hx, qL_int hy]
theorem qL_le {x y : Int} (hx : r64 x) (hy : r64 y) : qL x ≤ qL y ↔ x ≤ y := by rw [Int64.le_iff_toInt_le, qL_int hx, qL_int hy]
theorem qI_0 : qI 0 = 0 := rfl
theorem qL_0 : qL 0 = 0 := rfl
theorem r32_0 : r32 0 := ⟨by decide, by decide⟩
theorem r64_0 : r64 0 := ⟨by decide, by decide⟩
theorem qI_div {x y : Int} (hx : r32 x) (hy : r32 y) : qI x / qI y = qI (x.tdiv y) := by
  have h := Int32.toInt_div (qI x) (qI y)
  rw [qI_int hx, qI_int hy] at h
  rw [← Int32.toInt_inj, h]
  show _ = (Int32.ofInt _).toInt
  rw [Int32.toInt_ofInt]
theorem qL_div {x y : Int} (hx : r64 x) (hy : r64 y) : qL x / qL y = qL (x.tdiv y) := by
  have h := Int64.toInt_div (qL x) (qL y)
  rw [qL_int hx, qL_int hy] at h
  rw [← Int64.toInt_inj, h]
  show _ = (Int64.ofInt _).toInt
  rw [Int64.toInt_ofInt]
theorem qI_rem {x y : Int} (hx : r32 x) (hy : r32 y) : qI x - qI x / qI y * qI y = qI (x.tmod y) := by
  rw [qI_div hx hy, qI_mul, qI_sub]
  congr 1
  have := Int.tmod_def x y
  have h2 : x.tdiv y * y = y * x.tdiv y := Int.mul_comm _ _
  omega
theorem qL_rem {x y : Int} (hx : r64 x) (hy : r64 y) : qL x - qL x / qL y * qL y = qL (x.tmod y) := by
  rw [qL_div hx hy, qL_mul, qL_sub]
  congr 1
  have := Int.tmod_def x y
  have h2 : x.tdiv y * y = y * x.tdiv y := Int.mul_comm _ _
  omega
theorem qI_wide {x : Int} (hx : r32 x) : (qI x).toInt64 = qL x := by
  rw [← Int64.toInt_inj, Int32.toInt_toInt64, qI_int hx, qL_int ⟨by have := hx.1; omega, by have := hx.2; omega⟩]
theorem qL_cut (x : Int) : (qL x).toInt32 = qI x := Int64.toInt32_ofInt
theorem qI_nat {x : Int} (hx : 0 ≤ x) (h : x < 2147483648) : (qI x).toNatClampNeg = x.toNat := by
  show (qI x).toInt.toNat = _
  rw [qI_int ⟨by omega, h⟩]
theorem qI_in {x : Int} {n : Nat} (hx : 0 ≤ x) (h : x < n) (hn : n < 2147483648) : vp_in (qI x) n := by
  rw [vp_in_iff, qI_int ⟨by omega, by omega⟩]
  exact ⟨hx, h⟩
/-- bit by bit, by numbers -/
def qxor (x y : Int) : Int := (qI x ^^^ qI y).toInt
def qand (x y : Int) : Int := (qI x &&& qI y).toInt
def qushr (x y : Int) : Int := ((qI x).toUInt32 >>> ((qI y).toUInt32 &&& Int32.toUInt32 31)).toInt32.toInt
def qshr (x y : Int) : Int := (qI x >>> (qI y &&& 31)).toInt
theorem qxor_e (x y : Int) : qI x ^^^ qI y = qI (qxor x y) := qI_of _
theorem qand_e (x y : Int) : qI x &&& qI y = qI (qand x y) := qI_of _
theorem qushr_e (x y : Int) : ((qI x).toUInt32 >>> ((qI y).toUInt32 &&& Int32.toUInt32 31)).toInt32 = qI (qushr x y) := qI_of _
theorem qshr_e (x y : Int) : qI x >>> (qI y &&& 31) = qI (qshr x y) := qI_of _
theorem qxor_r (x y : Int) : r32 (qxor x y) := qI_rng _
theorem qand_r (x y : Int) : r32 (qand x y) := qI_rng _
theorem qushr_r (x y : Int) : r32 (qushr x y) := qI_rng _
theorem qshr_r (x y : Int) : r32 (qshr x y) := qI_rng _
/-- the int that a number wraps to -/
def qw32 (x : Int) : Int := (qI x).toInt
theorem qw32_r (x : Int) : r32 (qw32 x) := qI_rng _
theorem qw32_e (x : Int) : qI (qw32 x) = qI x := (qI_of _).symm
theorem qw32_id {x : Int} (h : r32 x) : qw32 x = x := qI_int h
theorem qxor_w (x y : Int) : qxor (qw32 x) (qw32 y) = qxor x y := by unfold qxor; rw [qw32_e, qw32_e]
end
section
/-! the words that all methods stand on: the tables' good ones -/
def qB : List Cond := lw_tbl.filter goodWord
theorem qB_i {w : Cond} (i : Nat) (h : tables_1[i]? = some w) (hg : goodWord w = true) : w ∈ qB := List.mem_filter.mpr ⟨List.mem_append_right _ (List.mem_of_getElem? h), hg⟩
theorem qB_p {q : MethodName × Nat} (i : Nat) (h : lw_privs[i]? = some q) : Cond.selects q.1.cls q.1 q.1 ∈ qB := List.mem_filter.mpr ⟨List.mem_append_left _ (List.mem_map.mpr ⟨q, List.mem_of_getElem? h, rfl⟩), rfl⟩
theorem qB_good {w : Cond} (h : w ∈ qB) : (w.onTables && w.keeps) = true ∨ ∃ ty, w = .arrayClass ty := good_of_word (List.mem_filter.mp h).2
theorem qB_in {ws : List Cond} (h : ∀ w ∈ ws, w ∈ qB) : GoodIn qB ws := fun w hw => ⟨h w hw, qB_good (h w hw)⟩
theorem qB_tbl {w : Cond} (h : w ∈ qB) : w ∈ lw_tbl := (List.mem_filter.mp h).1
theorem tw_0 : (Jvm.Cond.initialized "SquaringClockLaw") ∈ qB := qB_i 0 (by decide +kernel) (by decide +kernel)
theorem tw_1 : (Jvm.Cond.initialized "SquaringClock") ∈ qB := qB_i 1 (by decide +kernel) (by decide +kernel)
theorem tw_2 : (Jvm.Cond.initialized "SquaringClock$Forms") ∈ qB := qB_i 2 (by decide +kernel) (by decide +kernel)
theorem tw_3 : (Jvm.Cond.initialized "SquaringClock$Form") ∈ qB := qB_i 3 (by decide +kernel) (by decide +kernel)
theorem tw_4 : (Jvm.Cond.initialized "SquaringClock$Euclid") ∈ qB := qB_i 4 (by decide +kernel) (by decide +kernel)
theorem tw_5 : (Jvm.Cond.initialized "SquaringClock$Round") ∈ qB := qB_i 5 (by decide +kernel) (by decide +kernel)
theorem tw_6 : (Jvm.Cond.initialized "SquaringClockModel") ∈ qB := qB_i 6 (by decide +kernel) (by decide +kernel)
theorem tw_7 : (Jvm.Cond.initialized "java/lang/Throwable") ∈ qB := qB_i 7 (by decide +kernel) (by decide +kernel)
theorem tw_8 : (Jvm.Cond.initialized "java/lang/Exception") ∈ qB := qB_i 8 (by decide +kernel) (by decide +kernel)
theorem tw_9 : (Jvm.Cond.initialized "java/lang/RuntimeException") ∈ qB := qB_i 9 (by decide +kernel) (by decide +kernel)
theorem tw_10 : (Jvm.Cond.initialized "java/lang/IllegalArgumentException") ∈ qB := qB_i 10 (by decide +kernel) (by decide +kernel)
theorem tw_11 : (Jvm.Cond.initialized "java/lang/IllegalStateException") ∈ qB := qB_i 11 (by decide +kernel) (by decide +kernel)
theorem tw_12 : (Jvm.Cond.initialized "java/lang/Math") ∈ qB := qB_i 12 (by decide +kernel) (by decide +kernel)
theorem tw_13 : (Jvm.Cond.initialized "java/lang/IndexOutOfBoundsException") ∈ qB := qB_i 13 (by decide +kernel) (by decide +kernel)
theorem tw_14 : (Jvm.Cond.initialized "java/util/NoSuchElementException") ∈ qB := qB_i 14 (by decide +kernel) (by decide +kernel)
theorem tw_15 : (Jvm.Cond.classLink "SquaringClockLaw" (8 : Nat) "SquaringClock") ∈ qB := qB_i 15 (by decide +kernel) (by decide +kernel)
theorem tw_16 : (Jvm.Cond.instantiable "SquaringClock" (7 : Nat)) ∈ qB := qB_i 16 (by decide +kernel) (by decide +kernel)
theorem tw_17 : (Jvm.Cond.methodLink "SquaringClockLaw" (74 : Nat) ({ cls := "SquaringClock", name := "<init>", desc := "()V" } : Jvm.MethodName)) ∈ qB := qB_i 17 (by decide +kernel) (by decide +kernel)
theorem tw_18 : (Jvm.Cond.instanceMethod ({ cls := "SquaringClock", name := "<init>", desc := "()V" } : Jvm.MethodName)) ∈ qB := qB_i 18 (by decide +kernel) (by decide +kernel)
theorem tw_19 : (Jvm.Cond.code ({ cls := "SquaringClock", name := "<init>", desc := "()V" } : Jvm.MethodName) prog_1_method_1_code (2 : Nat) (Option.none : Option Jvm.ClassFile.FieldType)) ∈ qB := qB_i 19 (by decide +kernel) (by decide +kernel)
theorem tw_20 : (Jvm.Cond.methodLink "SquaringClock" (1 : Nat) ({ cls := "java/lang/Object", name := "<init>", desc := "()V" } : Jvm.MethodName)) ∈ qB := qB_i 20 (by decide +kernel) (by decide +kernel)
theorem tw_21 : (Jvm.Cond.instanceMethod ({ cls := "java/lang/Object", name := "<init>", desc := "()V" } : Jvm.MethodName)) ∈ qB := qB_i 21 (by decide +kernel) (by decide +kernel)
theorem tw_22 : (Jvm.Cond.code ({ cls := "java/lang/Object", name := "<init>", desc := "()V" } : Jvm.MethodName) object_method_1_code (1 : Nat) (Option.none : Option Jvm.ClassFile.FieldType)) ∈ qB := qB_i 22 (by decide +kernel) (by decide +kernel)
theorem tw_23 : (Jvm.Cond.classLink "SquaringClock" (7 : Nat) "SquaringClock$Forms") ∈ qB := qB_i 23 (by decide +kernel) (by decide +kernel)
theorem tw_24 : (Jvm.Cond.instantiable "SquaringClock$Forms" (10 : Nat)) ∈ qB := qB_i 24 (by decide +kernel) (by decide +kernel)
theorem tw_25 : (Jvm.Cond.methodLink "SquaringClock" (9 : Nat) ({ cls := "SquaringClock$Forms", name := "<init>", desc := "()V" } : Jvm.MethodName)) ∈ qB := qB_i 25 (by decide +kernel) (by decide +kernel)
theorem tw_26 : (Jvm.Cond.instanceMethod ({ cls := "SquaringClock$Forms", name := "<init>", desc := "()V" } : Jvm.MethodName)) ∈ qB := qB_i 26 (by decide +kernel) (by decide +kernel)
theorem tw_27 : (Jvm.Cond.code ({ cls := "SquaringClock$Forms", name := "<init>", desc := "()V" } : Jvm.MethodName) prog_4_method_1_code (1 : Nat) (Option.none : Option Jvm.ClassFile.FieldType)) ∈ qB := qB_i 27 (by decide +kernel) (by decide +kernel)
theorem tw_28 : (Jvm.Cond.methodLink "SquaringClock$Forms" (3 : Nat) ({ cls := "java/lang/Object", name := "<init>", desc := "()V" } : Jvm.MethodName)) ∈ qB := qB_i 28 (by decide +kernel) (by decide +kernel)
theorem tw_29 : (Jvm.Cond.classLink "SquaringClock$Forms" (15 : Nat) "SquaringClock$Form") ∈ qB := qB_i 29 (by decide +kernel) (by decide +kernel)
theorem tw_30 : (Jvm.Cond.instantiable "SquaringClock$Form" (3 : Nat)) ∈ qB := qB_i 30 (by decide +kernel) (by decide +kernel)
theorem tw_31 : (Jvm.Cond.methodLink "SquaringClock$Forms" (17 : Nat) ({ cls := "SquaringClock$Form", name := "<init>", desc := "()V" } : Jvm.MethodName)) ∈ qB := qB_i 31 (by decide +kernel) (by decide +kernel)
theorem tw_32 : (Jvm.Cond.instanceMethod ({ cls := "SquaringClock$Form", name := "<init>", desc := "()V" } : Jvm.MethodName)) ∈ qB := qB_i 32 (by decide +kernel) (by decide +kernel)
theorem tw_33 : (Jvm.Cond.code ({ cls := "SquaringClock$Form", name := "<init>", desc := "()V" } : Jvm.MethodName) prog_3_method_1_code (1 : Nat) (Option.none : Option Jvm.ClassFile.FieldType)) ∈ qB := qB_i 33 (by decide +kernel) (by decide +kernel)
theorem tw_34 : (Jvm.Cond.methodLink "SquaringClock$Form" (1 : Nat) ({ cls := "java/lang/Object", name := "<init>", desc := "()V" } : Jvm.MethodName)) ∈ qB := qB_i 34 (by decide +kernel) (by decide +kernel)
theorem tw_35 : (Jvm.Cond.fieldLink "SquaringClock$Form" (7 : Nat) "SquaringClock$Form" "a" "J") ∈ qB := qB_i 35 (by decide +kernel) (by decide +kernel)
theorem tw_38 : (Jvm.Cond.fieldLink "SquaringClock$Form" (13 : Nat) "SquaringClock$Form" "b" "J") ∈ qB := qB_i 38 (by decide +kernel) (by decide +kernel)
theorem tw_41 : (Jvm.Cond.fieldLink "SquaringClock$Form" (16 : Nat) "SquaringClock$Form" "c" "J") ∈ qB := qB_i 41 (by decide +kernel) (by decide +kernel)
theorem tw_43 : (Jvm.Cond.lays "SquaringClock$Form" "SquaringClock$Form" "a" "J") ∈ qB := qB_i 43 (by decide +kernel) (by decide +kernel)
theorem tw_44 : (Jvm.Cond.soleField "SquaringClock$Form" "a") ∈ qB := qB_i 44 (by decide +kernel) (by decide +kernel)
theorem tw_45 : (Jvm.Cond.lays "SquaringClock$Form" "SquaringClock$Form" "b" "J") ∈ qB := qB_i 45 (by decide +kernel) (by decide +kernel)
theorem tw_46 : (Jvm.Cond.soleField "SquaringClock$Form" "b") ∈ qB := qB_i 46 (by decide +kernel) (by decide +kernel)
theorem tw_47 : (Jvm.Cond.lays "SquaringClock$Form" "SquaringClock$Form" "c" "J") ∈ qB := qB_i 47 (by decide +kernel) (by decide +kernel)
theorem tw_48 : (Jvm.Cond.soleField "SquaringClock$Form" "c") ∈ qB := qB_i 48 (by decide +kernel) (by decide +kernel)
theorem tw_49 : (Jvm.Cond.superclass "SquaringClock$Form" "java/lang/Object") ∈ qB := qB_i 49 (by decide +kernel) (by decide +kernel)
theorem tw_50 : (Jvm.Cond.classLink "SquaringClock$Forms" (25 : Nat) "SquaringClock$Euclid") ∈ qB := qB_i 50 (by decide +kernel) (by decide +kernel)
theorem tw_51 : (Jvm.Cond.instantiable "SquaringClock$Euclid" (3 : Nat)) ∈ qB := qB_i 51 (by decide +kernel) (by decide +kernel)
theorem tw_53 : (Jvm.Cond.instanceMethod ({ cls := "SquaringClock$Euclid", name := "<init>", desc := "()V" } : Jvm.MethodName)) ∈ qB := qB_i 53 (by decide +kernel) (by decide +kernel)
theorem tw_54 : (Jvm.Cond.code ({ cls := "SquaringClock$Euclid", name := "<init>", desc := "()V" } : Jvm.MethodName) prog_2_method_1_code (1 : Nat) (Option.none : Option Jvm.ClassFile.FieldType)) ∈ qB := qB_i 54 (by decide +kernel) (by decide +kernel)
theorem tw_55 : (Jvm.Cond.methodLink "SquaringClock$Euclid" (3 : Nat) ({ cls := "java/lang/Object", name := "<init>", desc := "()V" } : Jvm.MethodName)) ∈ qB := qB_i 55 (by decide +kernel) (by decide +kernel)
theorem tw_56 : (Jvm.Cond.fieldLink "SquaringClock$Euclid" (25 : Nat) "SquaringClock$Euclid" "divisor" "J") ∈ qB := qB_i 56 (by decide +kernel) (by decide +kernel)
theorem tw_58 : (Jvm.Cond.fieldLink "SquaringClock$Euclid" (9 : Nat) "SquaringClock$Euclid" "first" "J") ∈ qB := qB_i 58 (by decide +kernel) (by decide +kernel)
theorem tw_60 : (Jvm.Cond.fieldLink "SquaringClock$Euclid" (15 : Nat) "SquaringClock$Euclid" "second" "J") ∈ qB := qB_i 60 (by decide +kernel) (by decide +kernel)
theorem tw_62 : (Jvm.Cond.lays "SquaringClock$Euclid" "SquaringClock$Euclid" "divisor" "J") ∈ qB := qB_i 62 (by decide +kernel) (by decide +kernel)
theorem tw_63 : (Jvm.Cond.soleField "SquaringClock$Euclid" "divisor") ∈ qB := qB_i 63 (by decide +kernel) (by decide +kernel)
theorem tw_64 : (Jvm.Cond.lays "SquaringClock$Euclid" "SquaringClock$Euclid" "first" "J") ∈ qB := qB_i 64 (by decide +kernel) (by decide +kernel)
theorem tw_65 : (Jvm.Cond.soleField "SquaringClock$Euclid" "first") ∈ qB := qB_i 65 (by decide +kernel) (by decide +kernel)
theorem tw_66 : (Jvm.Cond.lays "SquaringClock$Euclid" "SquaringClock$Euclid" "second" "J") ∈ qB := qB_i 66 (by decide +kernel) (by decide +kernel)
theorem tw_67 : (Jvm.Cond.soleField "SquaringClock$Euclid" "second") ∈ qB := qB_i 67 (by decide +kernel) (by decide +kernel)
theorem tw_68 : (Jvm.Cond.superclass "SquaringClock$Euclid" "java/lang/Object") ∈ qB := qB_i 68 (by decide +kernel) (by decide +kernel)
theorem tw_69 : (Jvm.Cond.fieldLink "SquaringClock$Forms" (9 : Nat) "SquaringClock$Forms" "d" "I") ∈ qB := qB_i 69 (by decide +kernel) (by decide +kernel)
theorem tw_71 : (Jvm.Cond.fieldLink "SquaringClock$Forms" (18 : Nat) "SquaringClock$Forms" "unit" "LSquaringClock$Form;") ∈ qB := qB_i 71 (by decide +kernel) (by decide +kernel)
theorem tw_73 : (Jvm.Cond.fieldLink "SquaringClock$Forms" (22 : Nat) "SquaringClock$Forms" "generator" "LSquaringClock$Form;") ∈ qB := qB_i 73 (by decide +kernel) (by decide +kernel)
theorem tw_75 : (Jvm.Cond.fieldLink "SquaringClock$Forms" (28 : Nat) "SquaringClock$Forms" "euclid" "LSquaringClock$Euclid;") ∈ qB := qB_i 75 (by decide +kernel) (by decide +kernel)
theorem tw_76 : (Jvm.Cond.fieldLink "SquaringClock$Forms" (32 : Nat) "SquaringClock$Forms" "left" "LSquaringClock$Form;") ∈ qB := qB_i 76 (by decide +kernel) (by decide +kernel)
theorem tw_77 : (Jvm.Cond.fieldLink "SquaringClock$Forms" (35 : Nat) "SquaringClock$Forms" "right" "LSquaringClock$Form;") ∈ qB := qB_i 77 (by decide +kernel) (by decide +kernel)
theorem tw_78 : (Jvm.Cond.fieldLink "SquaringClock$Forms" (38 : Nat) "SquaringClock$Forms" "base" "LSquaringClock$Form;") ∈ qB := qB_i 78 (by decide +kernel) (by decide +kernel)
theorem tw_79 : (Jvm.Cond.fieldLink "SquaringClock$Forms" (41 : Nat) "SquaringClock$Forms" "sofar" "LSquaringClock$Form;") ∈ qB := qB_i 79 (by decide +kernel) (by decide +kernel)
theorem tw_80 : (Jvm.Cond.fieldLink "SquaringClock$Forms" (44 : Nat) "SquaringClock$Forms" "one" "LSquaringClock$Form;") ∈ qB := qB_i 80 (by decide +kernel) (by decide +kernel)
theorem tw_81 : (Jvm.Cond.fieldLink "SquaringClock$Forms" (47 : Nat) "SquaringClock$Forms" "other" "LSquaringClock$Form;") ∈ qB := qB_i 81 (by decide +kernel) (by decide +kernel)
theorem tw_82 : (Jvm.Cond.lays "SquaringClock$Forms" "SquaringClock$Forms" "d" "I") ∈ qB := qB_i 82 (by decide +kernel) (by decide +kernel)
theorem tw_83 : (Jvm.Cond.soleField "SquaringClock$Forms" "d") ∈ qB := qB_i 83 (by decide +kernel) (by decide +kernel)
theorem tw_84 : (Jvm.Cond.laysFinal "SquaringClock$Forms" "SquaringClock$Forms" "unit" "LSquaringClock$Form;") ∈ qB := qB_i 84 (by decide +kernel) (by decide +kernel)
theorem tw_85 : (Jvm.Cond.soleField "SquaringClock$Forms" "unit") ∈ qB := qB_i 85 (by decide +kernel) (by decide +kernel)
theorem tw_86 : (Jvm.Cond.laysFinal "SquaringClock$Forms" "SquaringClock$Forms" "generator" "LSquaringClock$Form;") ∈ qB := qB_i 86 (by decide +kernel) (by decide +kernel)
theorem tw_87 : (Jvm.Cond.soleField "SquaringClock$Forms" "generator") ∈ qB := qB_i 87 (by decide +kernel) (by decide +kernel)
theorem tw_88 : (Jvm.Cond.laysFinal "SquaringClock$Forms" "SquaringClock$Forms" "euclid" "LSquaringClock$Euclid;") ∈ qB := qB_i 88 (by decide +kernel) (by decide +kernel)
theorem tw_89 : (Jvm.Cond.soleField "SquaringClock$Forms" "euclid") ∈ qB := qB_i 89 (by decide +kernel) (by decide +kernel)
theorem tw_90 : (Jvm.Cond.laysFinal "SquaringClock$Forms" "SquaringClock$Forms" "left" "LSquaringClock$Form;") ∈ qB := qB_i 90 (by decide +kernel) (by decide +kernel)
theorem tw_91 : (Jvm.Cond.soleField "SquaringClock$Forms" "left") ∈ qB := qB_i 91 (by decide +kernel) (by decide +kernel)
theorem tw_92 : (Jvm.Cond.laysFinal "SquaringClock$Forms" "SquaringClock$Forms" "right" "LSquaringClock$Form;") ∈ qB := qB_i 92 (by decide +kernel) (by decide +kernel)
theorem tw_93 : (Jvm.Cond.soleField "SquaringClock$Forms" "right") ∈ qB := qB_i 93 (by decide +kernel) (by decide +kernel)
theorem tw_94 : (Jvm.Cond.laysFinal "SquaringClock$Forms" "SquaringClock$Forms" "base" "LSquaringClock$Form;") ∈ qB := qB_i 94 (by decide +kernel) (by decide +kernel)
theorem tw_95 : (Jvm.Cond.soleField "SquaringClock$Forms" "base") ∈ qB := qB_i 95 (by decide +kernel) (by decide +kernel)
theorem tw_96 : (Jvm.Cond.laysFinal "SquaringClock$Forms" "SquaringClock$Forms" "sofar" "LSquaringClock$Form;") ∈ qB := qB_i 96 (by decide +kernel) (by decide +kernel)
theorem tw_97 : (Jvm.Cond.soleField "SquaringClock$Forms" "sofar") ∈ qB := qB_i 97 (by decide +kernel) (by decide +kernel)
theorem tw_98 : (Jvm.Cond.laysFinal "SquaringClock$Forms" "SquaringClock$Forms" "one" "LSquaringClock$Form;") ∈ qB := qB_i 98 (by decide +kernel) (by decide +kernel)
theorem tw_99 : (Jvm.Cond.soleField "SquaringClock$Forms" "one") ∈ qB := qB_i 99 (by decide +kernel) (by decide +kernel)
theorem tw_100 : (Jvm.Cond.laysFinal "SquaringClock$Forms" "SquaringClock$Forms" "other" "LSquaringClock$Form;") ∈ qB := qB_i 100 (by decide +kernel) (by decide +kernel)
theorem tw_101 : (Jvm.Cond.soleField "SquaringClock$Forms" "other") ∈ qB := qB_i 101 (by decide +kernel) (by decide +kernel)
theorem tw_102 : (Jvm.Cond.superclass "SquaringClock$Forms" "java/lang/Object") ∈ qB := qB_i 102 (by decide +kernel) (by decide +kernel)
theorem tw_103 : (Jvm.Cond.classLink "SquaringClock" (16 : Nat) "SquaringClock$Round") ∈ qB := qB_i 103 (by decide +kernel) (by decide +kernel)
theorem tw_105 : (Jvm.Cond.instantiable "SquaringClock$Round" (9 : Nat)) ∈ qB := qB_i 105 (by decide +kernel) (by decide +kernel)
theorem tw_106 : (Jvm.Cond.methodLink "SquaringClock" (22 : Nat) ({ cls := "SquaringClock$Round", name := "<init>", desc := "()V" } : Jvm.MethodName)) ∈ qB := qB_i 106 (by decide +kernel) (by decide +kernel)
theorem tw_107 : (Jvm.Cond.instanceMethod ({ cls := "SquaringClock$Round", name := "<init>", desc := "()V" } : Jvm.MethodName)) ∈ qB := qB_i 107 (by decide +kernel) (by decide +kernel)
theorem tw_108 : (Jvm.Cond.code ({ cls := "SquaringClock$Round", name := "<init>", desc := "()V" } : Jvm.MethodName) prog_5_method_1_code (1 : Nat) (Option.none : Option Jvm.ClassFile.FieldType)) ∈ qB := qB_i 108 (by decide +kernel) (by decide +kernel)
theorem tw_109 : (Jvm.Cond.methodLink "SquaringClock$Round" (1 : Nat) ({ cls := "java/lang/Object", name := "<init>", desc := "()V" } : Jvm.MethodName)) ∈ qB := qB_i 109 (by decide +kernel) (by decide +kernel)
theorem tw_110 : (Jvm.Cond.classLink "SquaringClock$Round" (7 : Nat) "SquaringClock$Form") ∈ qB := qB_i 110 (by decide +kernel) (by decide +kernel)
theorem tw_111 : (Jvm.Cond.methodLink "SquaringClock$Round" (9 : Nat) ({ cls := "SquaringClock$Form", name := "<init>", desc := "()V" } : Jvm.MethodName)) ∈ qB := qB_i 111 (by decide +kernel) (by decide +kernel)
theorem tw_118 : (Jvm.Cond.fieldLink "SquaringClock$Round" (10 : Nat) "SquaringClock$Round" "x" "LSquaringClock$Form;") ∈ qB := qB_i 118 (by decide +kernel) (by decide +kernel)
theorem tw_120 : (Jvm.Cond.fieldLink "SquaringClock$Round" (16 : Nat) "SquaringClock$Round" "y" "LSquaringClock$Form;") ∈ qB := qB_i 120 (by decide +kernel) (by decide +kernel)
theorem tw_122 : (Jvm.Cond.fieldLink "SquaringClock$Round" (19 : Nat) "SquaringClock$Round" "proof" "LSquaringClock$Form;") ∈ qB := qB_i 122 (by decide +kernel) (by decide +kernel)
theorem tw_124 : (Jvm.Cond.lays "SquaringClock$Round" "SquaringClock$Round" "squarings" "I") ∈ qB := qB_i 124 (by decide +kernel) (by decide +kernel)
theorem tw_125 : (Jvm.Cond.soleField "SquaringClock$Round" "squarings") ∈ qB := qB_i 125 (by decide +kernel) (by decide +kernel)
theorem tw_126 : (Jvm.Cond.lays "SquaringClock$Round" "SquaringClock$Round" "squaringsLeft" "I") ∈ qB := qB_i 126 (by decide +kernel) (by decide +kernel)
theorem tw_127 : (Jvm.Cond.soleField "SquaringClock$Round" "squaringsLeft") ∈ qB := qB_i 127 (by decide +kernel) (by decide +kernel)
theorem tw_128 : (Jvm.Cond.lays "SquaringClock$Round" "SquaringClock$Round" "stepsLeft" "I") ∈ qB := qB_i 128 (by decide +kernel) (by decide +kernel)
theorem tw_129 : (Jvm.Cond.soleField "SquaringClock$Round" "stepsLeft") ∈ qB := qB_i 129 (by decide +kernel) (by decide +kernel)
theorem tw_130 : (Jvm.Cond.lays "SquaringClock$Round" "SquaringClock$Round" "exponent" "I") ∈ qB := qB_i 130 (by decide +kernel) (by decide +kernel)
theorem tw_131 : (Jvm.Cond.soleField "SquaringClock$Round" "exponent") ∈ qB := qB_i 131 (by decide +kernel) (by decide +kernel)
theorem tw_132 : (Jvm.Cond.lays "SquaringClock$Round" "SquaringClock$Round" "prime" "I") ∈ qB := qB_i 132 (by decide +kernel) (by decide +kernel)
theorem tw_133 : (Jvm.Cond.soleField "SquaringClock$Round" "prime") ∈ qB := qB_i 133 (by decide +kernel) (by decide +kernel)
theorem tw_134 : (Jvm.Cond.lays "SquaringClock$Round" "SquaringClock$Round" "rest" "I") ∈ qB := qB_i 134 (by decide +kernel) (by decide +kernel)
theorem tw_135 : (Jvm.Cond.soleField "SquaringClock$Round" "rest") ∈ qB := qB_i 135 (by decide +kernel) (by decide +kernel)
theorem tw_136 : (Jvm.Cond.laysFinal "SquaringClock$Round" "SquaringClock$Round" "x" "LSquaringClock$Form;") ∈ qB := qB_i 136 (by decide +kernel) (by decide +kernel)
theorem tw_137 : (Jvm.Cond.soleField "SquaringClock$Round" "x") ∈ qB := qB_i 137 (by decide +kernel) (by decide +kernel)
theorem tw_138 : (Jvm.Cond.laysFinal "SquaringClock$Round" "SquaringClock$Round" "y" "LSquaringClock$Form;") ∈ qB := qB_i 138 (by decide +kernel) (by decide +kernel)
theorem tw_139 : (Jvm.Cond.soleField "SquaringClock$Round" "y") ∈ qB := qB_i 139 (by decide +kernel) (by decide +kernel)
theorem tw_140 : (Jvm.Cond.laysFinal "SquaringClock$Round" "SquaringClock$Round" "proof" "LSquaringClock$Form;") ∈ qB := qB_i 140 (by decide +kernel) (by decide +kernel)
theorem tw_141 : (Jvm.Cond.soleField "SquaringClock$Round" "proof") ∈ qB := qB_i 141 (by decide +kernel) (by decide +kernel)
theorem tw_142 : (Jvm.Cond.superclass "SquaringClock$Round" "java/lang/Object") ∈ qB := qB_i 142 (by decide +kernel) (by decide +kernel)
theorem tw_143 : (Jvm.Cond.classLink "SquaringClock" (23 : Nat) "SquaringClock$Form") ∈ qB := qB_i 143 (by decide +kernel) (by decide +kernel)
theorem tw_145 : (Jvm.Cond.methodLink "SquaringClock" (29 : Nat) ({ cls := "SquaringClock$Form", name := "<init>", desc := "()V" } : Jvm.MethodName)) ∈ qB := qB_i 145 (by decide +kernel) (by decide +kernel)
theorem tw_146 : (Jvm.Cond.fieldLink "SquaringClock" (10 : Nat) "SquaringClock" "forms" "LSquaringClock$Forms;") ∈ qB := qB_i 146 (by decide +kernel) (by decide +kernel)
theorem tw_147 : (Jvm.Cond.fieldLink "SquaringClock" (18 : Nat) "SquaringClock" "book" "[LSquaringClock$Round;") ∈ qB := qB_i 147 (by decide +kernel) (by decide +kernel)
theorem tw_148 : (Jvm.Cond.fieldLink "SquaringClock" (25 : Nat) "SquaringClock" "slots" "[LSquaringClock$Form;") ∈ qB := qB_i 148 (by decide +kernel) (by decide +kernel)
theorem tw_149 : (Jvm.Cond.fieldLink "SquaringClock" (30 : Nat) "SquaringClock" "filled" "[Z") ∈ qB := qB_i 149 (by decide +kernel) (by decide +kernel)
theorem tw_150 : (Jvm.Cond.fieldLink "SquaringClock" (34 : Nat) "SquaringClock" "chosen" "Z") ∈ qB := qB_i 150 (by decide +kernel) (by decide +kernel)
theorem tw_151 : (Jvm.Cond.fieldLink "SquaringClock" (38 : Nat) "SquaringClock" "booked" "I") ∈ qB := qB_i 151 (by decide +kernel) (by decide +kernel)
theorem tw_152 : (Jvm.Cond.fieldLink "SquaringClock" (42 : Nat) "SquaringClock" "running" "LSquaringClock$Round;") ∈ qB := qB_i 152 (by decide +kernel) (by decide +kernel)
theorem tw_153 : (Jvm.Cond.laysFinal "SquaringClock" "SquaringClock" "forms" "LSquaringClock$Forms;") ∈ qB := qB_i 153 (by decide +kernel) (by decide +kernel)
theorem tw_154 : (Jvm.Cond.soleField "SquaringClock" "forms") ∈ qB := qB_i 154 (by decide +kernel) (by decide +kernel)
theorem tw_155 : (Jvm.Cond.laysFinal "SquaringClock" "SquaringClock" "book" "[LSquaringClock$Round;") ∈ qB := qB_i 155 (by decide +kernel) (by decide +kernel)
theorem tw_156 : (Jvm.Cond.soleField "SquaringClock" "book") ∈ qB := qB_i 156 (by decide +kernel) (by decide +kernel)
theorem tw_157 : (Jvm.Cond.laysFinal "SquaringClock" "SquaringClock" "slots" "[LSquaringClock$Form;") ∈ qB := qB_i 157 (by decide +kernel) (by decide +kernel)
theorem tw_158 : (Jvm.Cond.soleField "SquaringClock" "slots") ∈ qB := qB_i 158 (by decide +kernel) (by decide +kernel)
theorem tw_159 : (Jvm.Cond.laysFinal "SquaringClock" "SquaringClock" "filled" "[Z") ∈ qB := qB_i 159 (by decide +kernel) (by decide +kernel)
theorem tw_160 : (Jvm.Cond.soleField "SquaringClock" "filled") ∈ qB := qB_i 160 (by decide +kernel) (by decide +kernel)
theorem tw_161 : (Jvm.Cond.lays "SquaringClock" "SquaringClock" "chosen" "Z") ∈ qB := qB_i 161 (by decide +kernel) (by decide +kernel)
theorem tw_162 : (Jvm.Cond.soleField "SquaringClock" "chosen") ∈ qB := qB_i 162 (by decide +kernel) (by decide +kernel)
theorem tw_163 : (Jvm.Cond.lays "SquaringClock" "SquaringClock" "booked" "I") ∈ qB := qB_i 163 (by decide +kernel) (by decide +kernel)
theorem tw_164 : (Jvm.Cond.soleField "SquaringClock" "booked") ∈ qB := qB_i 164 (by decide +kernel) (by decide +kernel)
theorem tw_165 : (Jvm.Cond.lays "SquaringClock" "SquaringClock" "running" "LSquaringClock$Round;") ∈ qB := qB_i 165 (by decide +kernel) (by decide +kernel)
theorem tw_166 : (Jvm.Cond.soleField "SquaringClock" "running") ∈ qB := qB_i 166 (by decide +kernel) (by decide +kernel)
theorem tw_167 : (Jvm.Cond.superclass "SquaringClock" "java/lang/Object") ∈ qB := qB_i 167 (by decide +kernel) (by decide +kernel)
theorem tw_168 : (Jvm.Cond.arrayClass Jvm.ClassFile.FieldType.boolean) ∈ qB := qB_i 168 (by decide +kernel) (by decide +kernel)
theorem tw_169 : (Jvm.Cond.methodLink "SquaringClockLaw" (101 : Nat) ({ cls := "SquaringClock", name := "drop", desc := "()Z" } : Jvm.MethodName)) ∈ qB := qB_i 169 (by decide +kernel) (by decide +kernel)
theorem tw_170 : (Jvm.Cond.instanceMethod ({ cls := "SquaringClock", name := "drop", desc := "()Z" } : Jvm.MethodName)) ∈ qB := qB_i 170 (by decide +kernel) (by decide +kernel)
theorem tw_171 : (Jvm.Cond.selects "SquaringClock" ({ cls := "SquaringClock", name := "drop", desc := "()Z" } : Jvm.MethodName) ({ cls := "SquaringClock", name := "drop", desc := "()Z" } : Jvm.MethodName)) ∈ qB := qB_i 171 (by decide +kernel) (by decide +kernel)
theorem tw_172 : (Jvm.Cond.code ({ cls := "SquaringClock", name := "drop", desc := "()Z" } : Jvm.MethodName) prog_1_method_7_code (2 : Nat) (Option.some Jvm.ClassFile.FieldType.boolean)) ∈ qB := qB_i 172 (by decide +kernel) (by decide +kernel)
theorem tw_173 : (Jvm.Cond.methodLink "SquaringClockLaw" (106 : Nat) ({ cls := "SquaringClock", name := "rounds", desc := "()I" } : Jvm.MethodName)) ∈ qB := qB_i 173 (by decide +kernel) (by decide +kernel)
theorem tw_174 : (Jvm.Cond.instanceMethod ({ cls := "SquaringClock", name := "rounds", desc := "()I" } : Jvm.MethodName)) ∈ qB := qB_i 174 (by decide +kernel) (by decide +kernel)
theorem tw_175 : (Jvm.Cond.selects "SquaringClock" ({ cls := "SquaringClock", name := "rounds", desc := "()I" } : Jvm.MethodName) ({ cls := "SquaringClock", name := "rounds", desc := "()I" } : Jvm.MethodName)) ∈ qB := qB_i 175 (by decide +kernel) (by decide +kernel)
theorem tw_176 : (Jvm.Cond.code ({ cls := "SquaringClock", name := "rounds", desc := "()I" } : Jvm.MethodName) prog_1_method_8_code (1 : Nat) (Option.some Jvm.ClassFile.FieldType.int)) ∈ qB := qB_i 176 (by decide +kernel) (by decide +kernel)
theorem tw_177 : (Jvm.Cond.methodLink "SquaringClockLaw" (78 : Nat) ({ cls := "SquaringClockLaw", name := "discriminant", desc := "(LSquaringClock;I)I" } : Jvm.MethodName)) ∈ qB := qB_i 177 (by decide +kernel) (by decide +kernel)
theorem tw_178 : (Jvm.Cond.static ({ cls := "SquaringClockLaw", name := "discriminant", desc := "(LSquaringClock;I)I" } : Jvm.MethodName)) ∈ qB := qB_i 178 (by decide +kernel) (by decide +kernel)
theorem tw_179 : (Jvm.Cond.codeWith ({ cls := "SquaringClockLaw", name := "discriminant", desc := "(LSquaringClock;I)I" } : Jvm.MethodName) method_3_code (3 : Nat) (Option.some Jvm.ClassFile.FieldType.int) [((0 : Nat), (5 : Nat), (8 : Nat), (13 : Nat)), ((0 : Nat), (5 : Nat), (11 : Nat), (15 : Nat))]) ∈ qB := qB_i 179 (by decide +kernel) (by decide +kernel)
theorem tw_180 : (Jvm.Cond.classLink "SquaringClockLaw" (13 : Nat) "java/lang/IllegalArgumentException") ∈ qB := qB_i 180 (by decide +kernel) (by decide +kernel)
theorem tw_181 : (Jvm.Cond.classLink "SquaringClockLaw" (15 : Nat) "java/lang/IllegalStateException") ∈ qB := qB_i 181 (by decide +kernel) (by decide +kernel)
theorem tw_182 : (Jvm.Cond.methodLink "SquaringClockLaw" (7 : Nat) ({ cls := "SquaringClock", name := "discriminant", desc := "(I)V" } : Jvm.MethodName)) ∈ qB := qB_i 182 (by decide +kernel) (by decide +kernel)
theorem tw_183 : (Jvm.Cond.instanceMethod ({ cls := "SquaringClock", name := "discriminant", desc := "(I)V" } : Jvm.MethodName)) ∈ qB := qB_i 183 (by decide +kernel) (by decide +kernel)
theorem tw_184 : (Jvm.Cond.selects "SquaringClock" ({ cls := "SquaringClock", name := "discriminant", desc := "(I)V" } : Jvm.MethodName) ({ cls := "SquaringClock", name := "discriminant", desc := "(I)V" } : Jvm.MethodName)) ∈ qB := qB_i 184 (by decide +kernel) (by decide +kernel)
theorem tw_185 : (Jvm.Cond.code ({ cls := "SquaringClock", name := "discriminant", desc := "(I)V" } : Jvm.MethodName) prog_1_method_2_code (3 : Nat) (Option.none : Option Jvm.ClassFile.FieldType)) ∈ qB := qB_i 185 (by decide +kernel) (by decide +kernel)
theorem tw_186 : (Jvm.Cond.constant "SquaringClock" (46 : Nat) (1000000000 : Int32)) ∈ qB := qB_i 186 (by decide +kernel) (by decide +kernel)
theorem tw_187 : (Jvm.Cond.classLink "SquaringClock" (47 : Nat) "java/lang/IllegalArgumentException") ∈ qB := qB_i 187 (by decide +kernel) (by decide +kernel)
theorem tw_188 : (Jvm.Cond.instantiable "java/lang/IllegalArgumentException" (6 : Nat)) ∈ qB := qB_i 188 (by decide +kernel) (by decide +kernel)
theorem tw_196 : (Jvm.Cond.selects "java/lang/IllegalArgumentException" ({ cls := "java/lang/Throwable", name := "fillInStackTrace", desc := "(I)Ljava/lang/Throwable;" } : Jvm.MethodName) ({ cls := "java/lang/Throwable", name := "fillInStackTrace", desc := "(I)Ljava/lang/Throwable;" } : Jvm.MethodName)) ∈ qB := qB_i 196 (by decide +kernel) (by decide +kernel)
theorem tw_197 : (Jvm.Cond.selects "java/lang/IllegalArgumentException" ({ cls := "java/lang/Throwable", name := "fillInStackTrace", desc := "()Ljava/lang/Throwable;" } : Jvm.MethodName) ({ cls := "java/lang/Throwable", name := "fillInStackTrace", desc := "()Ljava/lang/Throwable;" } : Jvm.MethodName)) ∈ qB := qB_i 197 (by decide +kernel) (by decide +kernel)
theorem tw_198 : (Jvm.Cond.lays "java/lang/IllegalArgumentException" "java/lang/Throwable" "cause" "Ljava/lang/Throwable;") ∈ qB := qB_i 198 (by decide +kernel) (by decide +kernel)
theorem tw_199 : (Jvm.Cond.lays "java/lang/Throwable" "java/lang/Throwable" "cause" "Ljava/lang/Throwable;") ∈ qB := qB_i 199 (by decide +kernel) (by decide +kernel)
theorem tw_200 : (Jvm.Cond.lays "java/lang/IllegalArgumentException" "java/lang/Throwable" "stackTrace" "[Ljava/lang/StackTraceElement;") ∈ qB := qB_i 200 (by decide +kernel) (by decide +kernel)
theorem tw_201 : (Jvm.Cond.lays "java/lang/Throwable" "java/lang/Throwable" "stackTrace" "[Ljava/lang/StackTraceElement;") ∈ qB := qB_i 201 (by decide +kernel) (by decide +kernel)
theorem tw_202 : (Jvm.Cond.lays "java/lang/IllegalArgumentException" "java/lang/Throwable" "suppressedExceptions" "Ljava/util/List;") ∈ qB := qB_i 202 (by decide +kernel) (by decide +kernel)
theorem tw_203 : (Jvm.Cond.lays "java/lang/Throwable" "java/lang/Throwable" "suppressedExceptions" "Ljava/util/List;") ∈ qB := qB_i 203 (by decide +kernel) (by decide +kernel)
theorem tw_204 : (Jvm.Cond.lays "java/lang/IllegalArgumentException" "java/lang/Throwable" "detailMessage" "Ljava/lang/String;") ∈ qB := qB_i 204 (by decide +kernel) (by decide +kernel)
theorem tw_205 : (Jvm.Cond.lays "java/lang/Throwable" "java/lang/Throwable" "detailMessage" "Ljava/lang/String;") ∈ qB := qB_i 205 (by decide +kernel) (by decide +kernel)
theorem tw_206 : (Jvm.Cond.lays "java/lang/IllegalArgumentException" "java/lang/Throwable" "backtrace" "Ljava/lang/Object;") ∈ qB := qB_i 206 (by decide +kernel) (by decide +kernel)
theorem tw_207 : (Jvm.Cond.lays "java/lang/Throwable" "java/lang/Throwable" "backtrace" "Ljava/lang/Object;") ∈ qB := qB_i 207 (by decide +kernel) (by decide +kernel)
theorem tw_208 : (Jvm.Cond.fieldLink "java/lang/Throwable" (198 : Nat) "java/lang/Throwable" "backtrace" "Ljava/lang/Object;") ∈ qB := qB_i 208 (by decide +kernel) (by decide +kernel)
theorem tw_209 : (Jvm.Cond.superclass "java/lang/Throwable" "java/lang/Object") ∈ qB := qB_i 209 (by decide +kernel) (by decide +kernel)
theorem tw_210 : (Jvm.Cond.instanceMethod ({ cls := "java/lang/Throwable", name := "<init>", desc := "()V" } : Jvm.MethodName)) ∈ qB := qB_i 210 (by decide +kernel) (by decide +kernel)
theorem tw_211 : (Jvm.Cond.code ({ cls := "java/lang/Throwable", name := "<init>", desc := "()V" } : Jvm.MethodName) prog_16_method_1_code (1 : Nat) (Option.none : Option Jvm.ClassFile.FieldType)) ∈ qB := qB_i 211 (by decide +kernel) (by decide +kernel)
theorem tw_212 : (Jvm.Cond.methodLink "java/lang/Throwable" (1 : Nat) ({ cls := "java/lang/Object", name := "<init>", desc := "()V" } : Jvm.MethodName)) ∈ qB := qB_i 212 (by decide +kernel) (by decide +kernel)
theorem tw_213 : (Jvm.Cond.fieldLink "java/lang/Throwable" (13 : Nat) "java/lang/Throwable" "UNASSIGNED_STACK" "[Ljava/lang/StackTraceElement;") ∈ qB := qB_i 213 (by decide +kernel) (by decide +kernel)
theorem tw_215 : (Jvm.Cond.fieldLink "java/lang/Throwable" (20 : Nat) "java/lang/Throwable" "SUPPRESSED_SENTINEL" "Ljava/util/List;") ∈ qB := qB_i 215 (by decide +kernel) (by decide +kernel)
theorem tw_217 : (Jvm.Cond.methodLink "java/lang/Throwable" (27 : Nat) ({ cls := "java/lang/Throwable", name := "fillInStackTrace", desc := "()Ljava/lang/Throwable;" } : Jvm.MethodName)) ∈ qB := qB_i 217 (by decide +kernel) (by decide +kernel)
theorem tw_218 : (Jvm.Cond.instanceMethod ({ cls := "java/lang/Throwable", name := "fillInStackTrace", desc := "()Ljava/lang/Throwable;" } : Jvm.MethodName)) ∈ qB := qB_i 218 (by decide +kernel) (by decide +kernel)
theorem tw_219 : (Jvm.Cond.sameMethod "java/lang/Throwable" "java/lang/Throwable" "fillInStackTrace" "()Ljava/lang/Throwable;") ∈ qB := qB_i 219 (by decide +kernel) (by decide +kernel)
theorem tw_220 : (Jvm.Cond.selects "java/lang/IllegalStateException" ({ cls := "java/lang/Throwable", name := "fillInStackTrace", desc := "()Ljava/lang/Throwable;" } : Jvm.MethodName) ({ cls := "java/lang/Throwable", name := "fillInStackTrace", desc := "()Ljava/lang/Throwable;" } : Jvm.MethodName)) ∈ qB := qB_i 220 (by decide +kernel) (by decide +kernel)
theorem tw_221 : (Jvm.Cond.selects "java/lang/IndexOutOfBoundsException" ({ cls := "java/lang/Throwable", name := "fillInStackTrace", desc := "()Ljava/lang/Throwable;" } : Jvm.MethodName) ({ cls := "java/lang/Throwable", name := "fillInStackTrace", desc := "()Ljava/lang/Throwable;" } : Jvm.MethodName)) ∈ qB := qB_i 221 (by decide +kernel) (by decide +kernel)
theorem tw_222 : (Jvm.Cond.selects "java/util/NoSuchElementException" ({ cls := "java/lang/Throwable", name := "fillInStackTrace", desc := "()Ljava/lang/Throwable;" } : Jvm.MethodName) ({ cls := "java/lang/Throwable", name := "fillInStackTrace", desc := "()Ljava/lang/Throwable;" } : Jvm.MethodName)) ∈ qB := qB_i 222 (by decide +kernel) (by decide +kernel)
theorem tw_223 : (Jvm.Cond.codeSync ({ cls := "java/lang/Throwable", name := "fillInStackTrace", desc := "()Ljava/lang/Throwable;" } : Jvm.MethodName) prog_16_method_18_code (1 : Nat) (Option.some (Jvm.ClassFile.FieldType.object "java/lang/Throwable"))) ∈ qB := qB_i 223 (by decide +kernel) (by decide +kernel)
theorem tw_224 : (Jvm.Cond.methodLink "java/lang/Throwable" (202 : Nat) ({ cls := "java/lang/Throwable", name := "fillInStackTrace", desc := "(I)Ljava/lang/Throwable;" } : Jvm.MethodName)) ∈ qB := qB_i 224 (by decide +kernel) (by decide +kernel)
theorem tw_226 : (Jvm.Cond.instanceMethod ({ cls := "java/lang/Throwable", name := "fillInStackTrace", desc := "(I)Ljava/lang/Throwable;" } : Jvm.MethodName)) ∈ qB := qB_i 226 (by decide +kernel) (by decide +kernel)
theorem tw_227 : (Jvm.Cond.instantiable "java/lang/Throwable" (6 : Nat)) ∈ qB := qB_i 227 (by decide +kernel) (by decide +kernel)
theorem tw_228 : (Jvm.Cond.native ({ cls := "java/lang/Throwable", name := "fillInStackTrace", desc := "(I)Ljava/lang/Throwable;" } : Jvm.MethodName)) ∈ qB := qB_i 228 (by decide +kernel) (by decide +kernel)
theorem tw_230 : (Jvm.Cond.methodLink "SquaringClock" (51 : Nat) ({ cls := "java/lang/IllegalArgumentException", name := "<init>", desc := "(Ljava/lang/String;)V" } : Jvm.MethodName)) ∈ qB := qB_i 230 (by decide +kernel) (by decide +kernel)
theorem tw_231 : (Jvm.Cond.instanceMethod ({ cls := "java/lang/IllegalArgumentException", name := "<init>", desc := "(Ljava/lang/String;)V" } : Jvm.MethodName)) ∈ qB := qB_i 231 (by decide +kernel) (by decide +kernel)
theorem tw_232 : (Jvm.Cond.code ({ cls := "java/lang/IllegalArgumentException", name := "<init>", desc := "(Ljava/lang/String;)V" } : Jvm.MethodName) prog_10_method_2_code (2 : Nat) (Option.none : Option Jvm.ClassFile.FieldType)) ∈ qB := qB_i 232 (by decide +kernel) (by decide +kernel)
theorem tw_233 : (Jvm.Cond.methodLink "java/lang/IllegalArgumentException" (7 : Nat) ({ cls := "java/lang/RuntimeException", name := "<init>", desc := "(Ljava/lang/String;)V" } : Jvm.MethodName)) ∈ qB := qB_i 233 (by decide +kernel) (by decide +kernel)
theorem tw_234 : (Jvm.Cond.instanceMethod ({ cls := "java/lang/RuntimeException", name := "<init>", desc := "(Ljava/lang/String;)V" } : Jvm.MethodName)) ∈ qB := qB_i 234 (by decide +kernel) (by decide +kernel)
theorem tw_235 : (Jvm.Cond.code ({ cls := "java/lang/RuntimeException", name := "<init>", desc := "(Ljava/lang/String;)V" } : Jvm.MethodName) prog_14_method_2_code (2 : Nat) (Option.none : Option Jvm.ClassFile.FieldType)) ∈ qB := qB_i 235 (by decide +kernel) (by decide +kernel)
theorem tw_236 : (Jvm.Cond.methodLink "java/lang/RuntimeException" (7 : Nat) ({ cls := "java/lang/Exception", name := "<init>", desc := "(Ljava/lang/String;)V" } : Jvm.MethodName)) ∈ qB := qB_i 236 (by decide +kernel) (by decide +kernel)
theorem tw_237 : (Jvm.Cond.instanceMethod ({ cls := "java/lang/Exception", name := "<init>", desc := "(Ljava/lang/String;)V" } : Jvm.MethodName)) ∈ qB := qB_i 237 (by decide +kernel) (by decide +kernel)
theorem tw_238 : (Jvm.Cond.code ({ cls := "java/lang/Exception", name := "<init>", desc := "(Ljava/lang/String;)V" } : Jvm.MethodName) prog_9_method_2_code (2 : Nat) (Option.none : Option Jvm.ClassFile.FieldType)) ∈ qB := qB_i 238 (by decide +kernel) (by decide +kernel)
theorem tw_239 : (Jvm.Cond.methodLink "java/lang/Exception" (7 : Nat) ({ cls := "java/lang/Throwable", name := "<init>", desc := "(Ljava/lang/String;)V" } : Jvm.MethodName)) ∈ qB := qB_i 239 (by decide +kernel) (by decide +kernel)
theorem tw_240 : (Jvm.Cond.instanceMethod ({ cls := "java/lang/Throwable", name := "<init>", desc := "(Ljava/lang/String;)V" } : Jvm.MethodName)) ∈ qB := qB_i 240 (by decide +kernel) (by decide +kernel)
theorem tw_241 : (Jvm.Cond.code ({ cls := "java/lang/Throwable", name := "<init>", desc := "(Ljava/lang/String;)V" } : Jvm.MethodName) prog_16_method_2_code (2 : Nat) (Option.none : Option Jvm.ClassFile.FieldType)) ∈ qB := qB_i 241 (by decide +kernel) (by decide +kernel)
theorem tw_242 : (Jvm.Cond.fieldLink "java/lang/Throwable" (198 : Nat) "java/lang/Throwable" "backtrace" "Ljava/lang/Object;") ∈ qB := qB_i 242 (by decide +kernel) (by decide +kernel)
theorem tw_243 : (Jvm.Cond.fieldLink "java/lang/Throwable" (31 : Nat) "java/lang/Throwable" "detailMessage" "Ljava/lang/String;") ∈ qB := qB_i 243 (by decide +kernel) (by decide +kernel)
theorem tw_244 : (Jvm.Cond.fieldLink "java/lang/Throwable" (7 : Nat) "java/lang/Throwable" "cause" "Ljava/lang/Throwable;") ∈ qB := qB_i 244 (by decide +kernel) (by decide +kernel)
theorem tw_245 : (Jvm.Cond.fieldLink "java/lang/Throwable" (17 : Nat) "java/lang/Throwable" "stackTrace" "[Ljava/lang/StackTraceElement;") ∈ qB := qB_i 245 (by decide +kernel) (by decide +kernel)
theorem tw_246 : (Jvm.Cond.fieldLink "java/lang/Throwable" (24 : Nat) "java/lang/Throwable" "suppressedExceptions" "Ljava/util/List;") ∈ qB := qB_i 246 (by decide +kernel) (by decide +kernel)
theorem tw_247 : (Jvm.Cond.soleField "java/lang/Throwable" "backtrace") ∈ qB := qB_i 247 (by decide +kernel) (by decide +kernel)
theorem tw_248 : (Jvm.Cond.soleField "java/lang/Throwable" "detailMessage") ∈ qB := qB_i 248 (by decide +kernel) (by decide +kernel)
theorem tw_249 : (Jvm.Cond.soleField "java/lang/Throwable" "cause") ∈ qB := qB_i 249 (by decide +kernel) (by decide +kernel)
theorem tw_250 : (Jvm.Cond.soleField "java/lang/Throwable" "stackTrace") ∈ qB := qB_i 250 (by decide +kernel) (by decide +kernel)
theorem tw_251 : (Jvm.Cond.lays "java/lang/IllegalArgumentException" "java/lang/Throwable" "depth" "I") ∈ qB := qB_i 251 (by decide +kernel) (by decide +kernel)
theorem tw_252 : (Jvm.Cond.soleField "java/lang/Throwable" "depth") ∈ qB := qB_i 252 (by decide +kernel) (by decide +kernel)
theorem tw_253 : (Jvm.Cond.soleField "java/lang/Throwable" "suppressedExceptions") ∈ qB := qB_i 253 (by decide +kernel) (by decide +kernel)
theorem tw_254 : (Jvm.Cond.superclass "java/lang/IllegalArgumentException" "java/lang/RuntimeException") ∈ qB := qB_i 254 (by decide +kernel) (by decide +kernel)
theorem tw_255 : (Jvm.Cond.arrayClass Jvm.ClassFile.FieldType.byte) ∈ qB := qB_i 255 (by decide +kernel) (by decide +kernel)
theorem tw_256 : (Jvm.Cond.classLink "SquaringClock" (54 : Nat) "java/lang/IllegalStateException") ∈ qB := qB_i 256 (by decide +kernel) (by decide +kernel)
theorem tw_257 : (Jvm.Cond.instantiable "java/lang/IllegalStateException" (6 : Nat)) ∈ qB := qB_i 257 (by decide +kernel) (by decide +kernel)
theorem tw_259 : (Jvm.Cond.selects "java/lang/IllegalStateException" ({ cls := "java/lang/Throwable", name := "fillInStackTrace", desc := "(I)Ljava/lang/Throwable;" } : Jvm.MethodName) ({ cls := "java/lang/Throwable", name := "fillInStackTrace", desc := "(I)Ljava/lang/Throwable;" } : Jvm.MethodName)) ∈ qB := qB_i 259 (by decide +kernel) (by decide +kernel)
theorem tw_260 : (Jvm.Cond.lays "java/lang/IllegalStateException" "java/lang/Throwable" "cause" "Ljava/lang/Throwable;") ∈ qB := qB_i 260 (by decide +kernel) (by decide +kernel)
theorem tw_261 : (Jvm.Cond.lays "java/lang/IllegalStateException" "java/lang/Throwable" "stackTrace" "[Ljava/lang/StackTraceElement;") ∈ qB := qB_i 261 (by decide +kernel) (by decide +kernel)
theorem tw_262 : (Jvm.Cond.lays "java/lang/IllegalStateException" "java/lang/Throwable" "suppressedExceptions" "Ljava/util/List;") ∈ qB := qB_i 262 (by decide +kernel) (by decide +kernel)
theorem tw_263 : (Jvm.Cond.lays "java/lang/IllegalStateException" "java/lang/Throwable" "detailMessage" "Ljava/lang/String;") ∈ qB := qB_i 263 (by decide +kernel) (by decide +kernel)
theorem tw_264 : (Jvm.Cond.lays "java/lang/IllegalStateException" "java/lang/Throwable" "backtrace" "Ljava/lang/Object;") ∈ qB := qB_i 264 (by decide +kernel) (by decide +kernel)
theorem tw_266 : (Jvm.Cond.methodLink "SquaringClock" (58 : Nat) ({ cls := "java/lang/IllegalStateException", name := "<init>", desc := "(Ljava/lang/String;)V" } : Jvm.MethodName)) ∈ qB := qB_i 266 (by decide +kernel) (by decide +kernel)
theorem tw_267 : (Jvm.Cond.instanceMethod ({ cls := "java/lang/IllegalStateException", name := "<init>", desc := "(Ljava/lang/String;)V" } : Jvm.MethodName)) ∈ qB := qB_i 267 (by decide +kernel) (by decide +kernel)
theorem tw_268 : (Jvm.Cond.code ({ cls := "java/lang/IllegalStateException", name := "<init>", desc := "(Ljava/lang/String;)V" } : Jvm.MethodName) prog_11_method_2_code (2 : Nat) (Option.none : Option Jvm.ClassFile.FieldType)) ∈ qB := qB_i 268 (by decide +kernel) (by decide +kernel)
theorem tw_269 : (Jvm.Cond.methodLink "java/lang/IllegalStateException" (7 : Nat) ({ cls := "java/lang/RuntimeException", name := "<init>", desc := "(Ljava/lang/String;)V" } : Jvm.MethodName)) ∈ qB := qB_i 269 (by decide +kernel) (by decide +kernel)
theorem tw_270 : (Jvm.Cond.lays "java/lang/IllegalStateException" "java/lang/Throwable" "depth" "I") ∈ qB := qB_i 270 (by decide +kernel) (by decide +kernel)
theorem tw_271 : (Jvm.Cond.superclass "java/lang/IllegalStateException" "java/lang/RuntimeException") ∈ qB := qB_i 271 (by decide +kernel) (by decide +kernel)
theorem tw_272 : (Jvm.Cond.methodLink "SquaringClock" (59 : Nat) ({ cls := "SquaringClock$Forms", name := "choose", desc := "(I)V" } : Jvm.MethodName)) ∈ qB := qB_i 272 (by decide +kernel) (by decide +kernel)
theorem tw_273 : (Jvm.Cond.instanceMethod ({ cls := "SquaringClock$Forms", name := "choose", desc := "(I)V" } : Jvm.MethodName)) ∈ qB := qB_i 273 (by decide +kernel) (by decide +kernel)
theorem tw_274 : (Jvm.Cond.selects "SquaringClock$Forms" ({ cls := "SquaringClock$Forms", name := "choose", desc := "(I)V" } : Jvm.MethodName) ({ cls := "SquaringClock$Forms", name := "choose", desc := "(I)V" } : Jvm.MethodName)) ∈ qB := qB_i 274 (by decide +kernel) (by decide +kernel)
theorem tw_275 : (Jvm.Cond.code ({ cls := "SquaringClock$Forms", name := "choose", desc := "(I)V" } : Jvm.MethodName) prog_4_method_2_code (2 : Nat) (Option.none : Option Jvm.ClassFile.FieldType)) ∈ qB := qB_i 275 (by decide +kernel) (by decide +kernel)
theorem tw_276 : (Jvm.Cond.methodLink "SquaringClock$Forms" (50 : Nat) ({ cls := "SquaringClock$Forms", name := "complete", desc := "(LSquaringClock$Form;JJ)V" } : Jvm.MethodName)) ∈ qB := qB_i 276 (by decide +kernel) (by decide +kernel)
theorem tw_277 : (Jvm.Cond.instanceMethod ({ cls := "SquaringClock$Forms", name := "complete", desc := "(LSquaringClock$Form;JJ)V" } : Jvm.MethodName)) ∈ qB := qB_i 277 (by decide +kernel) (by decide +kernel)
theorem tw_278 : (Jvm.Cond.selects "SquaringClock$Forms" ({ cls := "SquaringClock$Forms", name := "complete", desc := "(LSquaringClock$Form;JJ)V" } : Jvm.MethodName) ({ cls := "SquaringClock$Forms", name := "complete", desc := "(LSquaringClock$Form;JJ)V" } : Jvm.MethodName)) ∈ qB := qB_i 278 (by decide +kernel) (by decide +kernel)
theorem tw_279 : (Jvm.Cond.code ({ cls := "SquaringClock$Forms", name := "complete", desc := "(LSquaringClock$Form;JJ)V" } : Jvm.MethodName) prog_4_method_3_code (6 : Nat) (Option.none : Option Jvm.ClassFile.FieldType)) ∈ qB := qB_i 279 (by decide +kernel) (by decide +kernel)
theorem tw_280 : (Jvm.Cond.constantLong "SquaringClock$Forms" (67 : Nat) (4 : Int64)) ∈ qB := qB_i 280 (by decide +kernel) (by decide +kernel)
theorem tw_282 : (Jvm.Cond.static ({ cls := "SquaringClock", name := "quotient", desc := "(JJ)J" } : Jvm.MethodName)) ∈ qB := qB_i 282 (by decide +kernel) (by decide +kernel)
theorem tw_283 : (Jvm.Cond.code ({ cls := "SquaringClock", name := "quotient", desc := "(JJ)J" } : Jvm.MethodName) prog_1_method_34_code (4 : Nat) (Option.some Jvm.ClassFile.FieldType.long)) ∈ qB := qB_i 283 (by decide +kernel) (by decide +kernel)
theorem tw_284 : (Jvm.Cond.constantLong "SquaringClock$Forms" (54 : Nat) (2 : Int64)) ∈ qB := qB_i 284 (by decide +kernel) (by decide +kernel)
theorem tw_285 : (Jvm.Cond.methodLink "SquaringClock$Forms" (56 : Nat) ({ cls := "SquaringClock$Forms", name := "settle", desc := "(LSquaringClock$Form;)V" } : Jvm.MethodName)) ∈ qB := qB_i 285 (by decide +kernel) (by decide +kernel)
theorem tw_286 : (Jvm.Cond.instanceMethod ({ cls := "SquaringClock$Forms", name := "settle", desc := "(LSquaringClock$Form;)V" } : Jvm.MethodName)) ∈ qB := qB_i 286 (by decide +kernel) (by decide +kernel)
theorem tw_287 : (Jvm.Cond.selects "SquaringClock$Forms" ({ cls := "SquaringClock$Forms", name := "settle", desc := "(LSquaringClock$Form;)V" } : Jvm.MethodName) ({ cls := "SquaringClock$Forms", name := "settle", desc := "(LSquaringClock$Form;)V" } : Jvm.MethodName)) ∈ qB := qB_i 287 (by decide +kernel) (by decide +kernel)
theorem tw_288 : (Jvm.Cond.code ({ cls := "SquaringClock$Forms", name := "settle", desc := "(LSquaringClock$Form;)V" } : Jvm.MethodName) prog_4_method_6_code (3 : Nat) (Option.none : Option Jvm.ClassFile.FieldType)) ∈ qB := qB_i 288 (by decide +kernel) (by decide +kernel)
theorem tw_289 : (Jvm.Cond.constant "SquaringClock$Forms" (90 : Nat) (100000 : Int32)) ∈ qB := qB_i 289 (by decide +kernel) (by decide +kernel)
theorem tw_290 : (Jvm.Cond.methodLink "SquaringClock$Forms" (91 : Nat) ({ cls := "SquaringClock$Form", name := "isReduced", desc := "()Z" } : Jvm.MethodName)) ∈ qB := qB_i 290 (by decide +kernel) (by decide +kernel)
theorem tw_291 : (Jvm.Cond.instanceMethod ({ cls := "SquaringClock$Form", name := "isReduced", desc := "()Z" } : Jvm.MethodName)) ∈ qB := qB_i 291 (by decide +kernel) (by decide +kernel)
theorem tw_292 : (Jvm.Cond.selects "SquaringClock$Form" ({ cls := "SquaringClock$Form", name := "isReduced", desc := "()Z" } : Jvm.MethodName) ({ cls := "SquaringClock$Form", name := "isReduced", desc := "()Z" } : Jvm.MethodName)) ∈ qB := qB_i 292 (by decide +kernel) (by decide +kernel)
theorem tw_293 : (Jvm.Cond.code ({ cls := "SquaringClock$Form", name := "isReduced", desc := "()Z" } : Jvm.MethodName) prog_3_method_4_code (1 : Nat) (Option.some Jvm.ClassFile.FieldType.boolean)) ∈ qB := qB_i 293 (by decide +kernel) (by decide +kernel)
theorem tw_294 : (Jvm.Cond.methodLink "SquaringClock$Forms" (95 : Nat) ({ cls := "SquaringClock$Form", name := "swapEnds", desc := "()V" } : Jvm.MethodName)) ∈ qB := qB_i 294 (by decide +kernel) (by decide +kernel)
theorem tw_295 : (Jvm.Cond.instanceMethod ({ cls := "SquaringClock$Form", name := "swapEnds", desc := "()V" } : Jvm.MethodName)) ∈ qB := qB_i 295 (by decide +kernel) (by decide +kernel)
theorem tw_296 : (Jvm.Cond.selects "SquaringClock$Form" ({ cls := "SquaringClock$Form", name := "swapEnds", desc := "()V" } : Jvm.MethodName) ({ cls := "SquaringClock$Form", name := "swapEnds", desc := "()V" } : Jvm.MethodName)) ∈ qB := qB_i 296 (by decide +kernel) (by decide +kernel)
theorem tw_297 : (Jvm.Cond.code ({ cls := "SquaringClock$Form", name := "swapEnds", desc := "()V" } : Jvm.MethodName) prog_3_method_6_code (3 : Nat) (Option.none : Option Jvm.ClassFile.FieldType)) ∈ qB := qB_i 297 (by decide +kernel) (by decide +kernel)
theorem tw_298 : (Jvm.Cond.methodLink "SquaringClock$Forms" (98 : Nat) ({ cls := "SquaringClock$Forms", name := "bringBNearZero", desc := "(LSquaringClock$Form;)V" } : Jvm.MethodName)) ∈ qB := qB_i 298 (by decide +kernel) (by decide +kernel)
theorem tw_299 : (Jvm.Cond.instanceMethod ({ cls := "SquaringClock$Forms", name := "bringBNearZero", desc := "(LSquaringClock$Form;)V" } : Jvm.MethodName)) ∈ qB := qB_i 299 (by decide +kernel) (by decide +kernel)
theorem tw_300 : (Jvm.Cond.selects "SquaringClock$Forms" ({ cls := "SquaringClock$Forms", name := "bringBNearZero", desc := "(LSquaringClock$Form;)V" } : Jvm.MethodName) ({ cls := "SquaringClock$Forms", name := "bringBNearZero", desc := "(LSquaringClock$Form;)V" } : Jvm.MethodName)) ∈ qB := qB_i 300 (by decide +kernel) (by decide +kernel)
theorem tw_301 : (Jvm.Cond.code ({ cls := "SquaringClock$Forms", name := "bringBNearZero", desc := "(LSquaringClock$Form;)V" } : Jvm.MethodName) prog_4_method_7_code (2 : Nat) (Option.none : Option Jvm.ClassFile.FieldType)) ∈ qB := qB_i 301 (by decide +kernel) (by decide +kernel)
theorem tw_303 : (Jvm.Cond.static ({ cls := "SquaringClock", name := "remainder", desc := "(JJ)J" } : Jvm.MethodName)) ∈ qB := qB_i 303 (by decide +kernel) (by decide +kernel)
theorem tw_304 : (Jvm.Cond.code ({ cls := "SquaringClock", name := "remainder", desc := "(JJ)J" } : Jvm.MethodName) prog_1_method_35_code (6 : Nat) (Option.some Jvm.ClassFile.FieldType.long)) ∈ qB := qB_i 304 (by decide +kernel) (by decide +kernel)
theorem tw_305 : (Jvm.Cond.methodLink "SquaringClockLaw" (87 : Nat) ({ cls := "SquaringClockLaw", name := "begin", desc := "(LSquaringClock;I[J)I" } : Jvm.MethodName)) ∈ qB := qB_i 305 (by decide +kernel) (by decide +kernel)
theorem tw_306 : (Jvm.Cond.static ({ cls := "SquaringClockLaw", name := "begin", desc := "(LSquaringClock;I[J)I" } : Jvm.MethodName)) ∈ qB := qB_i 306 (by decide +kernel) (by decide +kernel)
theorem tw_307 : (Jvm.Cond.codeWith ({ cls := "SquaringClockLaw", name := "begin", desc := "(LSquaringClock;I[J)I" } : Jvm.MethodName) method_4_code (4 : Nat) (Option.some Jvm.ClassFile.FieldType.int) [((0 : Nat), (9 : Nat), (12 : Nat), (15 : Nat)), ((0 : Nat), (9 : Nat), (15 : Nat), (13 : Nat))]) ∈ qB := qB_i 307 (by decide +kernel) (by decide +kernel)
theorem tw_308 : (Jvm.Cond.methodLink "SquaringClockLaw" (17 : Nat) ({ cls := "SquaringClock", name := "begin", desc := "(I)I" } : Jvm.MethodName)) ∈ qB := qB_i 308 (by decide +kernel) (by decide +kernel)
theorem tw_309 : (Jvm.Cond.instanceMethod ({ cls := "SquaringClock", name := "begin", desc := "(I)I" } : Jvm.MethodName)) ∈ qB := qB_i 309 (by decide +kernel) (by decide +kernel)
theorem tw_310 : (Jvm.Cond.selects "SquaringClock" ({ cls := "SquaringClock", name := "begin", desc := "(I)I" } : Jvm.MethodName) ({ cls := "SquaringClock", name := "begin", desc := "(I)I" } : Jvm.MethodName)) ∈ qB := qB_i 310 (by decide +kernel) (by decide +kernel)
theorem tw_311 : (Jvm.Cond.code ({ cls := "SquaringClock", name := "begin", desc := "(I)I" } : Jvm.MethodName) prog_1_method_3_code (3 : Nat) (Option.some Jvm.ClassFile.FieldType.int)) ∈ qB := qB_i 311 (by decide +kernel) (by decide +kernel)
theorem tw_312 : (Jvm.Cond.methodLink "SquaringClock" (63 : Nat) ({ cls := "SquaringClock", name := "needDiscriminant", desc := "()V" } : Jvm.MethodName)) ∈ qB := qB_i 312 (by decide +kernel) (by decide +kernel)
theorem tw_314 : (Jvm.Cond.instanceMethod ({ cls := "SquaringClock", name := "needDiscriminant", desc := "()V" } : Jvm.MethodName)) ∈ qB := qB_i 314 (by decide +kernel) (by decide +kernel)
theorem tw_315 : (Jvm.Cond.code ({ cls := "SquaringClock", name := "needDiscriminant", desc := "()V" } : Jvm.MethodName) prog_1_method_20_code (1 : Nat) (Option.none : Option Jvm.ClassFile.FieldType)) ∈ qB := qB_i 315 (by decide +kernel) (by decide +kernel)
theorem tw_317 : (Jvm.Cond.methodLink "SquaringClock" (66 : Nat) ({ cls := "SquaringClock", name := "needTurns", desc := "(I)V" } : Jvm.MethodName)) ∈ qB := qB_i 317 (by decide +kernel) (by decide +kernel)
theorem tw_318 : (Jvm.Cond.static ({ cls := "SquaringClock", name := "needTurns", desc := "(I)V" } : Jvm.MethodName)) ∈ qB := qB_i 318 (by decide +kernel) (by decide +kernel)
theorem tw_319 : (Jvm.Cond.code ({ cls := "SquaringClock", name := "needTurns", desc := "(I)V" } : Jvm.MethodName) prog_1_method_21_code (1 : Nat) (Option.none : Option Jvm.ClassFile.FieldType)) ∈ qB := qB_i 319 (by decide +kernel) (by decide +kernel)
theorem tw_322 : (Jvm.Cond.methodLink "SquaringClock" (86 : Nat) ({ cls := "SquaringClock", name := "nextExponent", desc := "()I" } : Jvm.MethodName)) ∈ qB := qB_i 322 (by decide +kernel) (by decide +kernel)
theorem tw_324 : (Jvm.Cond.instanceMethod ({ cls := "SquaringClock", name := "nextExponent", desc := "()I" } : Jvm.MethodName)) ∈ qB := qB_i 324 (by decide +kernel) (by decide +kernel)
theorem tw_325 : (Jvm.Cond.code ({ cls := "SquaringClock", name := "nextExponent", desc := "()I" } : Jvm.MethodName) prog_1_method_27_code (2 : Nat) (Option.some Jvm.ClassFile.FieldType.int)) ∈ qB := qB_i 325 (by decide +kernel) (by decide +kernel)
theorem tw_326 : (Jvm.Cond.methodLink "SquaringClock" (231 : Nat) ({ cls := "SquaringClock", name := "mixed", desc := "(II)I" } : Jvm.MethodName)) ∈ qB := qB_i 326 (by decide +kernel) (by decide +kernel)
theorem tw_327 : (Jvm.Cond.static ({ cls := "SquaringClock", name := "mixed", desc := "(II)I" } : Jvm.MethodName)) ∈ qB := qB_i 327 (by decide +kernel) (by decide +kernel)
theorem tw_328 : (Jvm.Cond.code ({ cls := "SquaringClock", name := "mixed", desc := "(II)I" } : Jvm.MethodName) prog_1_method_29_code (3 : Nat) (Option.some Jvm.ClassFile.FieldType.int)) ∈ qB := qB_i 328 (by decide +kernel) (by decide +kernel)
theorem tw_329 : (Jvm.Cond.constant "SquaringClock" (242 : Nat) (1540483477 : Int32)) ∈ qB := qB_i 329 (by decide +kernel) (by decide +kernel)
theorem tw_330 : (Jvm.Cond.methodLink "SquaringClock" (234 : Nat) ({ cls := "SquaringClock", name := "mixedForm", desc := "(ILSquaringClock$Form;)I" } : Jvm.MethodName)) ∈ qB := qB_i 330 (by decide +kernel) (by decide +kernel)
theorem tw_331 : (Jvm.Cond.static ({ cls := "SquaringClock", name := "mixedForm", desc := "(ILSquaringClock$Form;)I" } : Jvm.MethodName)) ∈ qB := qB_i 331 (by decide +kernel) (by decide +kernel)
theorem tw_332 : (Jvm.Cond.code ({ cls := "SquaringClock", name := "mixedForm", desc := "(ILSquaringClock$Form;)I" } : Jvm.MethodName) prog_1_method_30_code (2 : Nat) (Option.some Jvm.ClassFile.FieldType.int)) ∈ qB := qB_i 332 (by decide +kernel) (by decide +kernel)
theorem tw_333 : (Jvm.Cond.constant "SquaringClock" (238 : Nat) (65535 : Int32)) ∈ qB := qB_i 333 (by decide +kernel) (by decide +kernel)
theorem tw_334 : (Jvm.Cond.methodLink "SquaringClock" (100 : Nat) ({ cls := "SquaringClock$Forms", name := "power", desc := "(LSquaringClock$Form;ILSquaringClock$Form;)V" } : Jvm.MethodName)) ∈ qB := qB_i 334 (by decide +kernel) (by decide +kernel)
theorem tw_335 : (Jvm.Cond.instanceMethod ({ cls := "SquaringClock$Forms", name := "power", desc := "(LSquaringClock$Form;ILSquaringClock$Form;)V" } : Jvm.MethodName)) ∈ qB := qB_i 335 (by decide +kernel) (by decide +kernel)
theorem tw_336 : (Jvm.Cond.selects "SquaringClock$Forms" ({ cls := "SquaringClock$Forms", name := "power", desc := "(LSquaringClock$Form;ILSquaringClock$Form;)V" } : Jvm.MethodName) ({ cls := "SquaringClock$Forms", name := "power", desc := "(LSquaringClock$Form;ILSquaringClock$Form;)V" } : Jvm.MethodName)) ∈ qB := qB_i 336 (by decide +kernel) (by decide +kernel)
theorem tw_337 : (Jvm.Cond.code ({ cls := "SquaringClock$Forms", name := "power", desc := "(LSquaringClock$Form;ILSquaringClock$Form;)V" } : Jvm.MethodName) prog_4_method_9_code (5 : Nat) (Option.none : Option Jvm.ClassFile.FieldType)) ∈ qB := qB_i 337 (by decide +kernel) (by decide +kernel)
theorem tw_338 : (Jvm.Cond.methodLink "SquaringClock$Forms" (101 : Nat) ({ cls := "SquaringClock$Form", name := "become", desc := "(LSquaringClock$Form;)V" } : Jvm.MethodName)) ∈ qB := qB_i 338 (by decide +kernel) (by decide +kernel)
theorem tw_339 : (Jvm.Cond.instanceMethod ({ cls := "SquaringClock$Form", name := "become", desc := "(LSquaringClock$Form;)V" } : Jvm.MethodName)) ∈ qB := qB_i 339 (by decide +kernel) (by decide +kernel)
theorem tw_340 : (Jvm.Cond.selects "SquaringClock$Form" ({ cls := "SquaringClock$Form", name := "become", desc := "(LSquaringClock$Form;)V" } : Jvm.MethodName) ({ cls := "SquaringClock$Form", name := "become", desc := "(LSquaringClock$Form;)V" } : Jvm.MethodName)) ∈ qB := qB_i 340 (by decide +kernel) (by decide +kernel)
theorem tw_341 : (Jvm.Cond.code ({ cls := "SquaringClock$Form", name := "become", desc := "(LSquaringClock$Form;)V" } : Jvm.MethodName) prog_3_method_2_code (2 : Nat) (Option.none : Option Jvm.ClassFile.FieldType)) ∈ qB := qB_i 341 (by decide +kernel) (by decide +kernel)
theorem tw_342 : (Jvm.Cond.methodLink "SquaringClock$Forms" (110 : Nat) ({ cls := "SquaringClock$Forms", name := "product", desc := "(LSquaringClock$Form;LSquaringClock$Form;LSquaringClock$Form;)V" } : Jvm.MethodName)) ∈ qB := qB_i 342 (by decide +kernel) (by decide +kernel)
theorem tw_343 : (Jvm.Cond.instanceMethod ({ cls := "SquaringClock$Forms", name := "product", desc := "(LSquaringClock$Form;LSquaringClock$Form;LSquaringClock$Form;)V" } : Jvm.MethodName)) ∈ qB := qB_i 343 (by decide +kernel) (by decide +kernel)
theorem tw_344 : (Jvm.Cond.selects "SquaringClock$Forms" ({ cls := "SquaringClock$Forms", name := "product", desc := "(LSquaringClock$Form;LSquaringClock$Form;LSquaringClock$Form;)V" } : Jvm.MethodName) ({ cls := "SquaringClock$Forms", name := "product", desc := "(LSquaringClock$Form;LSquaringClock$Form;LSquaringClock$Form;)V" } : Jvm.MethodName)) ∈ qB := qB_i 344 (by decide +kernel) (by decide +kernel)
theorem tw_345 : (Jvm.Cond.code ({ cls := "SquaringClock$Forms", name := "product", desc := "(LSquaringClock$Form;LSquaringClock$Form;LSquaringClock$Form;)V" } : Jvm.MethodName) prog_4_method_8_code (16 : Nat) (Option.none : Option Jvm.ClassFile.FieldType)) ∈ qB := qB_i 345 (by decide +kernel) (by decide +kernel)
theorem tw_346 : (Jvm.Cond.methodLink "SquaringClock$Forms" (83 : Nat) ({ cls := "SquaringClock$Euclid", name := "find", desc := "(JJ)V" } : Jvm.MethodName)) ∈ qB := qB_i 346 (by decide +kernel) (by decide +kernel)
theorem tw_347 : (Jvm.Cond.instanceMethod ({ cls := "SquaringClock$Euclid", name := "find", desc := "(JJ)V" } : Jvm.MethodName)) ∈ qB := qB_i 347 (by decide +kernel) (by decide +kernel)
theorem tw_348 : (Jvm.Cond.selects "SquaringClock$Euclid" ({ cls := "SquaringClock$Euclid", name := "find", desc := "(JJ)V" } : Jvm.MethodName) ({ cls := "SquaringClock$Euclid", name := "find", desc := "(JJ)V" } : Jvm.MethodName)) ∈ qB := qB_i 348 (by decide +kernel) (by decide +kernel)
theorem tw_349 : (Jvm.Cond.code ({ cls := "SquaringClock$Euclid", name := "find", desc := "(JJ)V" } : Jvm.MethodName) prog_2_method_2_code (18 : Nat) (Option.none : Option Jvm.ClassFile.FieldType)) ∈ qB := qB_i 349 (by decide +kernel) (by decide +kernel)
theorem tw_350 : (Jvm.Cond.constant "SquaringClock$Euclid" (18 : Nat) (100000 : Int32)) ∈ qB := qB_i 350 (by decide +kernel) (by decide +kernel)
theorem tw_352 : (Jvm.Cond.constantLong "SquaringClock$Euclid" (23 : Nat) (-1 : Int64)) ∈ qB := qB_i 352 (by decide +kernel) (by decide +kernel)
theorem tw_353 : (Jvm.Cond.methodLink "SquaringClock" (107 : Nat) ({ cls := "SquaringClock$Form", name := "become", desc := "(LSquaringClock$Form;)V" } : Jvm.MethodName)) ∈ qB := qB_i 353 (by decide +kernel) (by decide +kernel)
theorem tw_354 : (Jvm.Cond.methodLink "SquaringClockLaw" (91 : Nat) ({ cls := "SquaringClockLaw", name := "work", desc := "(LSquaringClock;I[J)I" } : Jvm.MethodName)) ∈ qB := qB_i 354 (by decide +kernel) (by decide +kernel)
theorem tw_355 : (Jvm.Cond.static ({ cls := "SquaringClockLaw", name := "work", desc := "(LSquaringClock;I[J)I" } : Jvm.MethodName)) ∈ qB := qB_i 355 (by decide +kernel) (by decide +kernel)
theorem tw_356 : (Jvm.Cond.codeWith ({ cls := "SquaringClockLaw", name := "work", desc := "(LSquaringClock;I[J)I" } : Jvm.MethodName) method_5_code (4 : Nat) (Option.some Jvm.ClassFile.FieldType.int) [((0 : Nat), (9 : Nat), (12 : Nat), (15 : Nat)), ((0 : Nat), (9 : Nat), (15 : Nat), (13 : Nat))]) ∈ qB := qB_i 356 (by decide +kernel) (by decide +kernel)
theorem tw_357 : (Jvm.Cond.methodLink "SquaringClockLaw" (21 : Nat) ({ cls := "SquaringClock", name := "work", desc := "(I)I" } : Jvm.MethodName)) ∈ qB := qB_i 357 (by decide +kernel) (by decide +kernel)
theorem tw_358 : (Jvm.Cond.instanceMethod ({ cls := "SquaringClock", name := "work", desc := "(I)I" } : Jvm.MethodName)) ∈ qB := qB_i 358 (by decide +kernel) (by decide +kernel)
theorem tw_359 : (Jvm.Cond.selects "SquaringClock" ({ cls := "SquaringClock", name := "work", desc := "(I)I" } : Jvm.MethodName) ({ cls := "SquaringClock", name := "work", desc := "(I)I" } : Jvm.MethodName)) ∈ qB := qB_i 359 (by decide +kernel) (by decide +kernel)
theorem tw_360 : (Jvm.Cond.code ({ cls := "SquaringClock", name := "work", desc := "(I)I" } : Jvm.MethodName) prog_1_method_4_code (4 : Nat) (Option.some Jvm.ClassFile.FieldType.int)) ∈ qB := qB_i 360 (by decide +kernel) (by decide +kernel)
theorem tw_362 : (Jvm.Cond.methodLink "SquaringClock" (119 : Nat) ({ cls := "java/lang/Math", name := "min", desc := "(II)I" } : Jvm.MethodName)) ∈ qB := qB_i 362 (by decide +kernel) (by decide +kernel)
theorem tw_363 : (Jvm.Cond.static ({ cls := "java/lang/Math", name := "min", desc := "(II)I" } : Jvm.MethodName)) ∈ qB := qB_i 363 (by decide +kernel) (by decide +kernel)
theorem tw_364 : (Jvm.Cond.code ({ cls := "java/lang/Math", name := "min", desc := "(II)I" } : Jvm.MethodName) prog_13_method_69_code (2 : Nat) (Option.some Jvm.ClassFile.FieldType.int)) ∈ qB := qB_i 364 (by decide +kernel) (by decide +kernel)
theorem tw_365 : (Jvm.Cond.methodLink "SquaringClock" (125 : Nat) ({ cls := "SquaringClock$Forms", name := "product", desc := "(LSquaringClock$Form;LSquaringClock$Form;LSquaringClock$Form;)V" } : Jvm.MethodName)) ∈ qB := qB_i 365 (by decide +kernel) (by decide +kernel)
theorem tw_366 : (Jvm.Cond.methodLink "SquaringClock" (129 : Nat) ({ cls := "SquaringClock", name := "primeOf", desc := "(LSquaringClock$Form;LSquaringClock$Form;I)I" } : Jvm.MethodName)) ∈ qB := qB_i 366 (by decide +kernel) (by decide +kernel)
theorem tw_367 : (Jvm.Cond.static ({ cls := "SquaringClock", name := "primeOf", desc := "(LSquaringClock$Form;LSquaringClock$Form;I)I" } : Jvm.MethodName)) ∈ qB := qB_i 367 (by decide +kernel) (by decide +kernel)
theorem tw_368 : (Jvm.Cond.code ({ cls := "SquaringClock", name := "primeOf", desc := "(LSquaringClock$Form;LSquaringClock$Form;I)I" } : Jvm.MethodName) prog_1_method_28_code (4 : Nat) (Option.some Jvm.ClassFile.FieldType.int)) ∈ qB := qB_i 368 (by decide +kernel) (by decide +kernel)
theorem tw_369 : (Jvm.Cond.methodLink "SquaringClock" (239 : Nat) ({ cls := "SquaringClock", name := "leastPrimeFrom", desc := "(I)I" } : Jvm.MethodName)) ∈ qB := qB_i 369 (by decide +kernel) (by decide +kernel)
theorem tw_370 : (Jvm.Cond.static ({ cls := "SquaringClock", name := "leastPrimeFrom", desc := "(I)I" } : Jvm.MethodName)) ∈ qB := qB_i 370 (by decide +kernel) (by decide +kernel)
theorem tw_371 : (Jvm.Cond.code ({ cls := "SquaringClock", name := "leastPrimeFrom", desc := "(I)I" } : Jvm.MethodName) prog_1_method_31_code (3 : Nat) (Option.some Jvm.ClassFile.FieldType.int)) ∈ qB := qB_i 371 (by decide +kernel) (by decide +kernel)
theorem tw_372 : (Jvm.Cond.constant "SquaringClock" (173 : Nat) (100000 : Int32)) ∈ qB := qB_i 372 (by decide +kernel) (by decide +kernel)
theorem tw_373 : (Jvm.Cond.methodLink "SquaringClock" (250 : Nat) ({ cls := "SquaringClock", name := "isPrime", desc := "(I)Z" } : Jvm.MethodName)) ∈ qB := qB_i 373 (by decide +kernel) (by decide +kernel)
theorem tw_374 : (Jvm.Cond.static ({ cls := "SquaringClock", name := "isPrime", desc := "(I)Z" } : Jvm.MethodName)) ∈ qB := qB_i 374 (by decide +kernel) (by decide +kernel)
theorem tw_375 : (Jvm.Cond.code ({ cls := "SquaringClock", name := "isPrime", desc := "(I)Z" } : Jvm.MethodName) prog_1_method_32_code (2 : Nat) (Option.some Jvm.ClassFile.FieldType.boolean)) ∈ qB := qB_i 375 (by decide +kernel) (by decide +kernel)
theorem tw_376 : (Jvm.Cond.methodLink "SquaringClockLaw" (94 : Nat) ({ cls := "SquaringClockLaw", name := "prove", desc := "(LSquaringClock;I[J)I" } : Jvm.MethodName)) ∈ qB := qB_i 376 (by decide +kernel) (by decide +kernel)
theorem tw_377 : (Jvm.Cond.static ({ cls := "SquaringClockLaw", name := "prove", desc := "(LSquaringClock;I[J)I" } : Jvm.MethodName)) ∈ qB := qB_i 377 (by decide +kernel) (by decide +kernel)
theorem tw_378 : (Jvm.Cond.codeWith ({ cls := "SquaringClockLaw", name := "prove", desc := "(LSquaringClock;I[J)I" } : Jvm.MethodName) method_6_code (4 : Nat) (Option.some Jvm.ClassFile.FieldType.int) [((0 : Nat), (9 : Nat), (12 : Nat), (15 : Nat)), ((0 : Nat), (9 : Nat), (15 : Nat), (13 : Nat))]) ∈ qB := qB_i 378 (by decide +kernel) (by decide +kernel)
theorem tw_379 : (Jvm.Cond.methodLink "SquaringClockLaw" (24 : Nat) ({ cls := "SquaringClock", name := "prove", desc := "(I)I" } : Jvm.MethodName)) ∈ qB := qB_i 379 (by decide +kernel) (by decide +kernel)
theorem tw_380 : (Jvm.Cond.instanceMethod ({ cls := "SquaringClock", name := "prove", desc := "(I)I" } : Jvm.MethodName)) ∈ qB := qB_i 380 (by decide +kernel) (by decide +kernel)
theorem tw_381 : (Jvm.Cond.selects "SquaringClock" ({ cls := "SquaringClock", name := "prove", desc := "(I)I" } : Jvm.MethodName) ({ cls := "SquaringClock", name := "prove", desc := "(I)I" } : Jvm.MethodName)) ∈ qB := qB_i 381 (by decide +kernel) (by decide +kernel)
theorem tw_382 : (Jvm.Cond.code ({ cls := "SquaringClock", name := "prove", desc := "(I)I" } : Jvm.MethodName) prog_1_method_5_code (4 : Nat) (Option.some Jvm.ClassFile.FieldType.int)) ∈ qB := qB_i 382 (by decide +kernel) (by decide +kernel)
theorem tw_384 : (Jvm.Cond.methodLink "SquaringClock" (135 : Nat) ({ cls := "SquaringClock", name := "stepOfProof", desc := "(LSquaringClock$Round;)V" } : Jvm.MethodName)) ∈ qB := qB_i 384 (by decide +kernel) (by decide +kernel)
theorem tw_386 : (Jvm.Cond.instanceMethod ({ cls := "SquaringClock", name := "stepOfProof", desc := "(LSquaringClock$Round;)V" } : Jvm.MethodName)) ∈ qB := qB_i 386 (by decide +kernel) (by decide +kernel)
theorem tw_387 : (Jvm.Cond.code ({ cls := "SquaringClock", name := "stepOfProof", desc := "(LSquaringClock$Round;)V" } : Jvm.MethodName) prog_1_method_33_code (2 : Nat) (Option.none : Option Jvm.ClassFile.FieldType)) ∈ qB := qB_i 387 (by decide +kernel) (by decide +kernel)
theorem tw_388 : (Jvm.Cond.methodLink "SquaringClockLaw" (97 : Nat) ({ cls := "SquaringClockLaw", name := "publish", desc := "(LSquaringClock;[J)I" } : Jvm.MethodName)) ∈ qB := qB_i 388 (by decide +kernel) (by decide +kernel)
theorem tw_389 : (Jvm.Cond.static ({ cls := "SquaringClockLaw", name := "publish", desc := "(LSquaringClock;[J)I" } : Jvm.MethodName)) ∈ qB := qB_i 389 (by decide +kernel) (by decide +kernel)
theorem tw_390 : (Jvm.Cond.codeWith ({ cls := "SquaringClockLaw", name := "publish", desc := "(LSquaringClock;[J)I" } : Jvm.MethodName) method_7_code (3 : Nat) (Option.some Jvm.ClassFile.FieldType.int) [((0 : Nat), (8 : Nat), (11 : Nat), (15 : Nat))]) ∈ qB := qB_i 390 (by decide +kernel) (by decide +kernel)
theorem tw_391 : (Jvm.Cond.methodLink "SquaringClockLaw" (27 : Nat) ({ cls := "SquaringClock", name := "publish", desc := "()I" } : Jvm.MethodName)) ∈ qB := qB_i 391 (by decide +kernel) (by decide +kernel)
theorem tw_392 : (Jvm.Cond.instanceMethod ({ cls := "SquaringClock", name := "publish", desc := "()I" } : Jvm.MethodName)) ∈ qB := qB_i 392 (by decide +kernel) (by decide +kernel)
theorem tw_393 : (Jvm.Cond.selects "SquaringClock" ({ cls := "SquaringClock", name := "publish", desc := "()I" } : Jvm.MethodName) ({ cls := "SquaringClock", name := "publish", desc := "()I" } : Jvm.MethodName)) ∈ qB := qB_i 393 (by decide +kernel) (by decide +kernel)
theorem tw_394 : (Jvm.Cond.code ({ cls := "SquaringClock", name := "publish", desc := "()I" } : Jvm.MethodName) prog_1_method_6_code (1 : Nat) (Option.some Jvm.ClassFile.FieldType.int)) ∈ qB := qB_i 394 (by decide +kernel) (by decide +kernel)
theorem tw_396 : (Jvm.Cond.methodLink "SquaringClockLaw" (110 : Nat) ({ cls := "SquaringClockLaw", name := "told", desc := "(LSquaringClock;II[J)I" } : Jvm.MethodName)) ∈ qB := qB_i 396 (by decide +kernel) (by decide +kernel)
theorem tw_397 : (Jvm.Cond.static ({ cls := "SquaringClockLaw", name := "told", desc := "(LSquaringClock;II[J)I" } : Jvm.MethodName)) ∈ qB := qB_i 397 (by decide +kernel) (by decide +kernel)
theorem tw_398 : (Jvm.Cond.codeWith ({ cls := "SquaringClockLaw", name := "told", desc := "(LSquaringClock;II[J)I" } : Jvm.MethodName) method_8_code (5 : Nat) (Option.some Jvm.ClassFile.FieldType.int) [((0 : Nat), (10 : Nat), (13 : Nat), (15 : Nat)), ((0 : Nat), (10 : Nat), (17 : Nat), (35 : Nat))]) ∈ qB := qB_i 398 (by decide +kernel) (by decide +kernel)
theorem tw_399 : (Jvm.Cond.classLink "SquaringClockLaw" (35 : Nat) "java/lang/IndexOutOfBoundsException") ∈ qB := qB_i 399 (by decide +kernel) (by decide +kernel)
theorem tw_400 : (Jvm.Cond.methodLink "SquaringClockLaw" (31 : Nat) ({ cls := "SquaringClock", name := "told", desc := "(II)I" } : Jvm.MethodName)) ∈ qB := qB_i 400 (by decide +kernel) (by decide +kernel)
theorem tw_401 : (Jvm.Cond.instanceMethod ({ cls := "SquaringClock", name := "told", desc := "(II)I" } : Jvm.MethodName)) ∈ qB := qB_i 401 (by decide +kernel) (by decide +kernel)
theorem tw_402 : (Jvm.Cond.selects "SquaringClock" ({ cls := "SquaringClock", name := "told", desc := "(II)I" } : Jvm.MethodName) ({ cls := "SquaringClock", name := "told", desc := "(II)I" } : Jvm.MethodName)) ∈ qB := qB_i 402 (by decide +kernel) (by decide +kernel)
theorem tw_403 : (Jvm.Cond.code ({ cls := "SquaringClock", name := "told", desc := "(II)I" } : Jvm.MethodName) prog_1_method_9_code (4 : Nat) (Option.some Jvm.ClassFile.FieldType.int)) ∈ qB := qB_i 403 (by decide +kernel) (by decide +kernel)
theorem tw_404 : (Jvm.Cond.methodLink "SquaringClock" (141 : Nat) ({ cls := "SquaringClock", name := "bookedOrRunning", desc := "(I)LSquaringClock$Round;" } : Jvm.MethodName)) ∈ qB := qB_i 404 (by decide +kernel) (by decide +kernel)
theorem tw_406 : (Jvm.Cond.instanceMethod ({ cls := "SquaringClock", name := "bookedOrRunning", desc := "(I)LSquaringClock$Round;" } : Jvm.MethodName)) ∈ qB := qB_i 406 (by decide +kernel) (by decide +kernel)
theorem tw_407 : (Jvm.Cond.code ({ cls := "SquaringClock", name := "bookedOrRunning", desc := "(I)LSquaringClock$Round;" } : Jvm.MethodName) prog_1_method_26_code (2 : Nat) (Option.some (Jvm.ClassFile.FieldType.object "SquaringClock$Round"))) ∈ qB := qB_i 407 (by decide +kernel) (by decide +kernel)
theorem tw_408 : (Jvm.Cond.methodLink "SquaringClock" (159 : Nat) ({ cls := "SquaringClock", name := "bookedRound", desc := "(I)LSquaringClock$Round;" } : Jvm.MethodName)) ∈ qB := qB_i 408 (by decide +kernel) (by decide +kernel)
theorem tw_410 : (Jvm.Cond.instanceMethod ({ cls := "SquaringClock", name := "bookedRound", desc := "(I)LSquaringClock$Round;" } : Jvm.MethodName)) ∈ qB := qB_i 410 (by decide +kernel) (by decide +kernel)
theorem tw_411 : (Jvm.Cond.code ({ cls := "SquaringClock", name := "bookedRound", desc := "(I)LSquaringClock$Round;" } : Jvm.MethodName) prog_1_method_25_code (2 : Nat) (Option.some (Jvm.ClassFile.FieldType.object "SquaringClock$Round"))) ∈ qB := qB_i 411 (by decide +kernel) (by decide +kernel)
theorem tw_412 : (Jvm.Cond.classLink "SquaringClock" (145 : Nat) "java/lang/IndexOutOfBoundsException") ∈ qB := qB_i 412 (by decide +kernel) (by decide +kernel)
theorem tw_413 : (Jvm.Cond.instantiable "java/lang/IndexOutOfBoundsException" (6 : Nat)) ∈ qB := qB_i 413 (by decide +kernel) (by decide +kernel)
theorem tw_415 : (Jvm.Cond.selects "java/lang/IndexOutOfBoundsException" ({ cls := "java/lang/Throwable", name := "fillInStackTrace", desc := "(I)Ljava/lang/Throwable;" } : Jvm.MethodName) ({ cls := "java/lang/Throwable", name := "fillInStackTrace", desc := "(I)Ljava/lang/Throwable;" } : Jvm.MethodName)) ∈ qB := qB_i 415 (by decide +kernel) (by decide +kernel)
theorem tw_416 : (Jvm.Cond.lays "java/lang/IndexOutOfBoundsException" "java/lang/Throwable" "cause" "Ljava/lang/Throwable;") ∈ qB := qB_i 416 (by decide +kernel) (by decide +kernel)
theorem tw_417 : (Jvm.Cond.lays "java/lang/IndexOutOfBoundsException" "java/lang/Throwable" "stackTrace" "[Ljava/lang/StackTraceElement;") ∈ qB := qB_i 417 (by decide +kernel) (by decide +kernel)
theorem tw_418 : (Jvm.Cond.lays "java/lang/IndexOutOfBoundsException" "java/lang/Throwable" "suppressedExceptions" "Ljava/util/List;") ∈ qB := qB_i 418 (by decide +kernel) (by decide +kernel)
theorem tw_419 : (Jvm.Cond.lays "java/lang/IndexOutOfBoundsException" "java/lang/Throwable" "detailMessage" "Ljava/lang/String;") ∈ qB := qB_i 419 (by decide +kernel) (by decide +kernel)
theorem tw_420 : (Jvm.Cond.lays "java/lang/IndexOutOfBoundsException" "java/lang/Throwable" "backtrace" "Ljava/lang/Object;") ∈ qB := qB_i 420 (by decide +kernel) (by decide +kernel)
theorem tw_422 : (Jvm.Cond.methodLink "SquaringClock" (149 : Nat) ({ cls := "java/lang/IndexOutOfBoundsException", name := "<init>", desc := "(Ljava/lang/String;)V" } : Jvm.MethodName)) ∈ qB := qB_i 422 (by decide +kernel) (by decide +kernel)
theorem tw_423 : (Jvm.Cond.instanceMethod ({ cls := "java/lang/IndexOutOfBoundsException", name := "<init>", desc := "(Ljava/lang/String;)V" } : Jvm.MethodName)) ∈ qB := qB_i 423 (by decide +kernel) (by decide +kernel)
theorem tw_424 : (Jvm.Cond.code ({ cls := "java/lang/IndexOutOfBoundsException", name := "<init>", desc := "(Ljava/lang/String;)V" } : Jvm.MethodName) prog_12_method_2_code (2 : Nat) (Option.none : Option Jvm.ClassFile.FieldType)) ∈ qB := qB_i 424 (by decide +kernel) (by decide +kernel)
theorem tw_425 : (Jvm.Cond.methodLink "java/lang/IndexOutOfBoundsException" (7 : Nat) ({ cls := "java/lang/RuntimeException", name := "<init>", desc := "(Ljava/lang/String;)V" } : Jvm.MethodName)) ∈ qB := qB_i 425 (by decide +kernel) (by decide +kernel)
theorem tw_426 : (Jvm.Cond.lays "java/lang/IndexOutOfBoundsException" "java/lang/Throwable" "depth" "I") ∈ qB := qB_i 426 (by decide +kernel) (by decide +kernel)
theorem tw_427 : (Jvm.Cond.superclass "java/lang/IndexOutOfBoundsException" "java/lang/RuntimeException") ∈ qB := qB_i 427 (by decide +kernel) (by decide +kernel)
theorem tw_429 : (Jvm.Cond.methodLink "SquaringClockLaw" (114 : Nat) ({ cls := "SquaringClockLaw", name := "form", desc := "(LSquaringClock;III[J)I" } : Jvm.MethodName)) ∈ qB := qB_i 429 (by decide +kernel) (by decide +kernel)
theorem tw_430 : (Jvm.Cond.static ({ cls := "SquaringClockLaw", name := "form", desc := "(LSquaringClock;III[J)I" } : Jvm.MethodName)) ∈ qB := qB_i 430 (by decide +kernel) (by decide +kernel)
theorem tw_431 : (Jvm.Cond.codeWith ({ cls := "SquaringClockLaw", name := "form", desc := "(LSquaringClock;III[J)I" } : Jvm.MethodName) method_9_code (6 : Nat) (Option.some Jvm.ClassFile.FieldType.int) [((0 : Nat), (12 : Nat), (15 : Nat), (15 : Nat)), ((0 : Nat), (12 : Nat), (19 : Nat), (35 : Nat))]) ∈ qB := qB_i 431 (by decide +kernel) (by decide +kernel)
theorem tw_432 : (Jvm.Cond.methodLink "SquaringClockLaw" (37 : Nat) ({ cls := "SquaringClock", name := "form", desc := "(III)I" } : Jvm.MethodName)) ∈ qB := qB_i 432 (by decide +kernel) (by decide +kernel)
theorem tw_433 : (Jvm.Cond.instanceMethod ({ cls := "SquaringClock", name := "form", desc := "(III)I" } : Jvm.MethodName)) ∈ qB := qB_i 433 (by decide +kernel) (by decide +kernel)
theorem tw_434 : (Jvm.Cond.selects "SquaringClock" ({ cls := "SquaringClock", name := "form", desc := "(III)I" } : Jvm.MethodName) ({ cls := "SquaringClock", name := "form", desc := "(III)I" } : Jvm.MethodName)) ∈ qB := qB_i 434 (by decide +kernel) (by decide +kernel)
theorem tw_435 : (Jvm.Cond.code ({ cls := "SquaringClock", name := "form", desc := "(III)I" } : Jvm.MethodName) prog_1_method_10_code (5 : Nat) (Option.some Jvm.ClassFile.FieldType.int)) ∈ qB := qB_i 435 (by decide +kernel) (by decide +kernel)
theorem tw_436 : (Jvm.Cond.methodLink "SquaringClock" (150 : Nat) ({ cls := "SquaringClock", name := "needPart", desc := "(I)V" } : Jvm.MethodName)) ∈ qB := qB_i 436 (by decide +kernel) (by decide +kernel)
theorem tw_437 : (Jvm.Cond.static ({ cls := "SquaringClock", name := "needPart", desc := "(I)V" } : Jvm.MethodName)) ∈ qB := qB_i 437 (by decide +kernel) (by decide +kernel)
theorem tw_438 : (Jvm.Cond.code ({ cls := "SquaringClock", name := "needPart", desc := "(I)V" } : Jvm.MethodName) prog_1_method_23_code (1 : Nat) (Option.none : Option Jvm.ClassFile.FieldType)) ∈ qB := qB_i 438 (by decide +kernel) (by decide +kernel)
theorem tw_440 : (Jvm.Cond.methodLink "SquaringClock" (153 : Nat) ({ cls := "SquaringClock$Form", name := "part", desc := "(I)J" } : Jvm.MethodName)) ∈ qB := qB_i 440 (by decide +kernel) (by decide +kernel)
theorem tw_441 : (Jvm.Cond.instanceMethod ({ cls := "SquaringClock$Form", name := "part", desc := "(I)J" } : Jvm.MethodName)) ∈ qB := qB_i 441 (by decide +kernel) (by decide +kernel)
theorem tw_442 : (Jvm.Cond.selects "SquaringClock$Form" ({ cls := "SquaringClock$Form", name := "part", desc := "(I)J" } : Jvm.MethodName) ({ cls := "SquaringClock$Form", name := "part", desc := "(I)J" } : Jvm.MethodName)) ∈ qB := qB_i 442 (by decide +kernel) (by decide +kernel)
theorem tw_443 : (Jvm.Cond.code ({ cls := "SquaringClock$Form", name := "part", desc := "(I)J" } : Jvm.MethodName) prog_3_method_5_code (2 : Nat) (Option.some Jvm.ClassFile.FieldType.long)) ∈ qB := qB_i 443 (by decide +kernel) (by decide +kernel)
theorem tw_445 : (Jvm.Cond.methodLink "SquaringClockLaw" (118 : Nat) ({ cls := "SquaringClockLaw", name := "verify", desc := "(LSquaringClock;I[J)I" } : Jvm.MethodName)) ∈ qB := qB_i 445 (by decide +kernel) (by decide +kernel)
theorem tw_446 : (Jvm.Cond.static ({ cls := "SquaringClockLaw", name := "verify", desc := "(LSquaringClock;I[J)I" } : Jvm.MethodName)) ∈ qB := qB_i 446 (by decide +kernel) (by decide +kernel)
theorem tw_447 : (Jvm.Cond.codeWith ({ cls := "SquaringClockLaw", name := "verify", desc := "(LSquaringClock;I[J)I" } : Jvm.MethodName) method_10_code (4 : Nat) (Option.some Jvm.ClassFile.FieldType.int) [((0 : Nat), (16 : Nat), (19 : Nat), (15 : Nat)), ((0 : Nat), (16 : Nat), (22 : Nat), (35 : Nat))]) ∈ qB := qB_i 447 (by decide +kernel) (by decide +kernel)
theorem tw_448 : (Jvm.Cond.methodLink "SquaringClockLaw" (41 : Nat) ({ cls := "SquaringClock", name := "verify", desc := "(I)Z" } : Jvm.MethodName)) ∈ qB := qB_i 448 (by decide +kernel) (by decide +kernel)
theorem tw_449 : (Jvm.Cond.instanceMethod ({ cls := "SquaringClock", name := "verify", desc := "(I)Z" } : Jvm.MethodName)) ∈ qB := qB_i 449 (by decide +kernel) (by decide +kernel)
theorem tw_450 : (Jvm.Cond.selects "SquaringClock" ({ cls := "SquaringClock", name := "verify", desc := "(I)Z" } : Jvm.MethodName) ({ cls := "SquaringClock", name := "verify", desc := "(I)Z" } : Jvm.MethodName)) ∈ qB := qB_i 450 (by decide +kernel) (by decide +kernel)
theorem tw_451 : (Jvm.Cond.code ({ cls := "SquaringClock", name := "verify", desc := "(I)Z" } : Jvm.MethodName) prog_1_method_11_code (3 : Nat) (Option.some Jvm.ClassFile.FieldType.boolean)) ∈ qB := qB_i 451 (by decide +kernel) (by decide +kernel)
theorem tw_452 : (Jvm.Cond.methodLink "SquaringClock" (162 : Nat) ({ cls := "SquaringClock$Forms", name := "isGeneratorsPower", desc := "(LSquaringClock$Form;I)Z" } : Jvm.MethodName)) ∈ qB := qB_i 452 (by decide +kernel) (by decide +kernel)
theorem tw_453 : (Jvm.Cond.instanceMethod ({ cls := "SquaringClock$Forms", name := "isGeneratorsPower", desc := "(LSquaringClock$Form;I)Z" } : Jvm.MethodName)) ∈ qB := qB_i 453 (by decide +kernel) (by decide +kernel)
theorem tw_454 : (Jvm.Cond.selects "SquaringClock$Forms" ({ cls := "SquaringClock$Forms", name := "isGeneratorsPower", desc := "(LSquaringClock$Form;I)Z" } : Jvm.MethodName) ({ cls := "SquaringClock$Forms", name := "isGeneratorsPower", desc := "(LSquaringClock$Form;I)Z" } : Jvm.MethodName)) ∈ qB := qB_i 454 (by decide +kernel) (by decide +kernel)
theorem tw_455 : (Jvm.Cond.code ({ cls := "SquaringClock$Forms", name := "isGeneratorsPower", desc := "(LSquaringClock$Form;I)Z" } : Jvm.MethodName) prog_4_method_10_code (3 : Nat) (Option.some Jvm.ClassFile.FieldType.boolean)) ∈ qB := qB_i 455 (by decide +kernel) (by decide +kernel)
theorem tw_456 : (Jvm.Cond.methodLink "SquaringClock$Forms" (114 : Nat) ({ cls := "SquaringClock$Forms", name := "power", desc := "(LSquaringClock$Form;ILSquaringClock$Form;)V" } : Jvm.MethodName)) ∈ qB := qB_i 456 (by decide +kernel) (by decide +kernel)
theorem tw_457 : (Jvm.Cond.methodLink "SquaringClock$Forms" (118 : Nat) ({ cls := "SquaringClock$Form", name := "isSame", desc := "(LSquaringClock$Form;)Z" } : Jvm.MethodName)) ∈ qB := qB_i 457 (by decide +kernel) (by decide +kernel)
theorem tw_458 : (Jvm.Cond.instanceMethod ({ cls := "SquaringClock$Form", name := "isSame", desc := "(LSquaringClock$Form;)Z" } : Jvm.MethodName)) ∈ qB := qB_i 458 (by decide +kernel) (by decide +kernel)
theorem tw_459 : (Jvm.Cond.selects "SquaringClock$Form" ({ cls := "SquaringClock$Form", name := "isSame", desc := "(LSquaringClock$Form;)Z" } : Jvm.MethodName) ({ cls := "SquaringClock$Form", name := "isSame", desc := "(LSquaringClock$Form;)Z" } : Jvm.MethodName)) ∈ qB := qB_i 459 (by decide +kernel) (by decide +kernel)
theorem tw_460 : (Jvm.Cond.code ({ cls := "SquaringClock$Form", name := "isSame", desc := "(LSquaringClock$Form;)Z" } : Jvm.MethodName) prog_3_method_3_code (2 : Nat) (Option.some Jvm.ClassFile.FieldType.boolean)) ∈ qB := qB_i 460 (by decide +kernel) (by decide +kernel)
theorem tw_461 : (Jvm.Cond.methodLink "SquaringClock" (166 : Nat) ({ cls := "SquaringClock$Forms", name := "holds", desc := "(LSquaringClock$Form;LSquaringClock$Form;LSquaringClock$Form;II)Z" } : Jvm.MethodName)) ∈ qB := qB_i 461 (by decide +kernel) (by decide +kernel)
theorem tw_462 : (Jvm.Cond.instanceMethod ({ cls := "SquaringClock$Forms", name := "holds", desc := "(LSquaringClock$Form;LSquaringClock$Form;LSquaringClock$Form;II)Z" } : Jvm.MethodName)) ∈ qB := qB_i 462 (by decide +kernel) (by decide +kernel)
theorem tw_463 : (Jvm.Cond.selects "SquaringClock$Forms" ({ cls := "SquaringClock$Forms", name := "holds", desc := "(LSquaringClock$Form;LSquaringClock$Form;LSquaringClock$Form;II)Z" } : Jvm.MethodName) ({ cls := "SquaringClock$Forms", name := "holds", desc := "(LSquaringClock$Form;LSquaringClock$Form;LSquaringClock$Form;II)Z" } : Jvm.MethodName)) ∈ qB := qB_i 463 (by decide +kernel) (by decide +kernel)
theorem tw_464 : (Jvm.Cond.code ({ cls := "SquaringClock$Forms", name := "holds", desc := "(LSquaringClock$Form;LSquaringClock$Form;LSquaringClock$Form;II)Z" } : Jvm.MethodName) prog_4_method_11_code (6 : Nat) (Option.some Jvm.ClassFile.FieldType.boolean)) ∈ qB := qB_i 464 (by decide +kernel) (by decide +kernel)
theorem tw_465 : (Jvm.Cond.methodLink "SquaringClock$Forms" (122 : Nat) ({ cls := "SquaringClock$Forms", name := "restOfPowerOfTwo", desc := "(II)I" } : Jvm.MethodName)) ∈ qB := qB_i 465 (by decide +kernel) (by decide +kernel)
theorem tw_466 : (Jvm.Cond.instanceMethod ({ cls := "SquaringClock$Forms", name := "restOfPowerOfTwo", desc := "(II)I" } : Jvm.MethodName)) ∈ qB := qB_i 466 (by decide +kernel) (by decide +kernel)
theorem tw_467 : (Jvm.Cond.selects "SquaringClock$Forms" ({ cls := "SquaringClock$Forms", name := "restOfPowerOfTwo", desc := "(II)I" } : Jvm.MethodName) ({ cls := "SquaringClock$Forms", name := "restOfPowerOfTwo", desc := "(II)I" } : Jvm.MethodName)) ∈ qB := qB_i 467 (by decide +kernel) (by decide +kernel)
theorem tw_468 : (Jvm.Cond.code ({ cls := "SquaringClock$Forms", name := "restOfPowerOfTwo", desc := "(II)I" } : Jvm.MethodName) prog_4_method_12_code (5 : Nat) (Option.some Jvm.ClassFile.FieldType.int)) ∈ qB := qB_i 468 (by decide +kernel) (by decide +kernel)
theorem tw_469 : (Jvm.Cond.methodLink "SquaringClockLaw" (121 : Nat) ({ cls := "SquaringClockLaw", name := "put", desc := "(LSquaringClock;III)I" } : Jvm.MethodName)) ∈ qB := qB_i 469 (by decide +kernel) (by decide +kernel)
theorem tw_470 : (Jvm.Cond.static ({ cls := "SquaringClockLaw", name := "put", desc := "(LSquaringClock;III)I" } : Jvm.MethodName)) ∈ qB := qB_i 470 (by decide +kernel) (by decide +kernel)
theorem tw_471 : (Jvm.Cond.codeWith ({ cls := "SquaringClockLaw", name := "put", desc := "(LSquaringClock;III)I" } : Jvm.MethodName) method_11_code (5 : Nat) (Option.some Jvm.ClassFile.FieldType.int) [((0 : Nat), (7 : Nat), (10 : Nat), (15 : Nat)), ((0 : Nat), (7 : Nat), (14 : Nat), (35 : Nat)), ((0 : Nat), (7 : Nat), (18 : Nat), (13 : Nat))]) ∈ qB := qB_i 471 (by decide +kernel) (by decide +kernel)
theorem tw_472 : (Jvm.Cond.methodLink "SquaringClockLaw" (45 : Nat) ({ cls := "SquaringClock", name := "put", desc := "(III)V" } : Jvm.MethodName)) ∈ qB := qB_i 472 (by decide +kernel) (by decide +kernel)
theorem tw_473 : (Jvm.Cond.instanceMethod ({ cls := "SquaringClock", name := "put", desc := "(III)V" } : Jvm.MethodName)) ∈ qB := qB_i 473 (by decide +kernel) (by decide +kernel)
theorem tw_474 : (Jvm.Cond.selects "SquaringClock" ({ cls := "SquaringClock", name := "put", desc := "(III)V" } : Jvm.MethodName) ({ cls := "SquaringClock", name := "put", desc := "(III)V" } : Jvm.MethodName)) ∈ qB := qB_i 474 (by decide +kernel) (by decide +kernel)
theorem tw_475 : (Jvm.Cond.code ({ cls := "SquaringClock", name := "put", desc := "(III)V" } : Jvm.MethodName) prog_1_method_12_code (4 : Nat) (Option.none : Option Jvm.ClassFile.FieldType)) ∈ qB := qB_i 475 (by decide +kernel) (by decide +kernel)
theorem tw_476 : (Jvm.Cond.methodLink "SquaringClock" (170 : Nat) ({ cls := "SquaringClock", name := "needSlot", desc := "(I)V" } : Jvm.MethodName)) ∈ qB := qB_i 476 (by decide +kernel) (by decide +kernel)
theorem tw_477 : (Jvm.Cond.static ({ cls := "SquaringClock", name := "needSlot", desc := "(I)V" } : Jvm.MethodName)) ∈ qB := qB_i 477 (by decide +kernel) (by decide +kernel)
theorem tw_478 : (Jvm.Cond.code ({ cls := "SquaringClock", name := "needSlot", desc := "(I)V" } : Jvm.MethodName) prog_1_method_22_code (1 : Nat) (Option.none : Option Jvm.ClassFile.FieldType)) ∈ qB := qB_i 478 (by decide +kernel) (by decide +kernel)
theorem tw_480 : (Jvm.Cond.constant "SquaringClock" (174 : Nat) (-100000 : Int32)) ∈ qB := qB_i 480 (by decide +kernel) (by decide +kernel)
theorem tw_481 : (Jvm.Cond.methodLink "SquaringClock" (175 : Nat) ({ cls := "SquaringClock$Forms", name := "hasForm", desc := "(JJ)Z" } : Jvm.MethodName)) ∈ qB := qB_i 481 (by decide +kernel) (by decide +kernel)
theorem tw_482 : (Jvm.Cond.instanceMethod ({ cls := "SquaringClock$Forms", name := "hasForm", desc := "(JJ)Z" } : Jvm.MethodName)) ∈ qB := qB_i 482 (by decide +kernel) (by decide +kernel)
theorem tw_483 : (Jvm.Cond.selects "SquaringClock$Forms" ({ cls := "SquaringClock$Forms", name := "hasForm", desc := "(JJ)Z" } : Jvm.MethodName) ({ cls := "SquaringClock$Forms", name := "hasForm", desc := "(JJ)Z" } : Jvm.MethodName)) ∈ qB := qB_i 483 (by decide +kernel) (by decide +kernel)
theorem tw_484 : (Jvm.Cond.code ({ cls := "SquaringClock$Forms", name := "hasForm", desc := "(JJ)Z" } : Jvm.MethodName) prog_4_method_4_code (7 : Nat) (Option.some Jvm.ClassFile.FieldType.boolean)) ∈ qB := qB_i 484 (by decide +kernel) (by decide +kernel)
theorem tw_485 : (Jvm.Cond.methodLink "SquaringClock$Forms" (79 : Nat) ({ cls := "SquaringClock$Forms", name := "hasNoCommonDivisor", desc := "(JJJ)Z" } : Jvm.MethodName)) ∈ qB := qB_i 485 (by decide +kernel) (by decide +kernel)
theorem tw_486 : (Jvm.Cond.instanceMethod ({ cls := "SquaringClock$Forms", name := "hasNoCommonDivisor", desc := "(JJJ)Z" } : Jvm.MethodName)) ∈ qB := qB_i 486 (by decide +kernel) (by decide +kernel)
theorem tw_487 : (Jvm.Cond.selects "SquaringClock$Forms" ({ cls := "SquaringClock$Forms", name := "hasNoCommonDivisor", desc := "(JJJ)Z" } : Jvm.MethodName) ({ cls := "SquaringClock$Forms", name := "hasNoCommonDivisor", desc := "(JJJ)Z" } : Jvm.MethodName)) ∈ qB := qB_i 487 (by decide +kernel) (by decide +kernel)
theorem tw_488 : (Jvm.Cond.code ({ cls := "SquaringClock$Forms", name := "hasNoCommonDivisor", desc := "(JJJ)Z" } : Jvm.MethodName) prog_4_method_5_code (7 : Nat) (Option.some Jvm.ClassFile.FieldType.boolean)) ∈ qB := qB_i 488 (by decide +kernel) (by decide +kernel)
theorem tw_490 : (Jvm.Cond.methodLink "SquaringClock" (181 : Nat) ({ cls := "SquaringClock$Forms", name := "complete", desc := "(LSquaringClock$Form;JJ)V" } : Jvm.MethodName)) ∈ qB := qB_i 490 (by decide +kernel) (by decide +kernel)
theorem tw_491 : (Jvm.Cond.methodLink "SquaringClockLaw" (125 : Nat) ({ cls := "SquaringClockLaw", name := "buffer", desc := "(LSquaringClock;II[J)I" } : Jvm.MethodName)) ∈ qB := qB_i 491 (by decide +kernel) (by decide +kernel)
theorem tw_492 : (Jvm.Cond.static ({ cls := "SquaringClockLaw", name := "buffer", desc := "(LSquaringClock;II[J)I" } : Jvm.MethodName)) ∈ qB := qB_i 492 (by decide +kernel) (by decide +kernel)
theorem tw_493 : (Jvm.Cond.codeWith ({ cls := "SquaringClockLaw", name := "buffer", desc := "(LSquaringClock;II[J)I" } : Jvm.MethodName) method_12_code (5 : Nat) (Option.some Jvm.ClassFile.FieldType.int) [((0 : Nat), (9 : Nat), (12 : Nat), (15 : Nat)), ((0 : Nat), (9 : Nat), (16 : Nat), (35 : Nat)), ((0 : Nat), (9 : Nat), (20 : Nat), (53 : Nat))]) ∈ qB := qB_i 493 (by decide +kernel) (by decide +kernel)
theorem tw_494 : (Jvm.Cond.classLink "SquaringClockLaw" (53 : Nat) "java/util/NoSuchElementException") ∈ qB := qB_i 494 (by decide +kernel) (by decide +kernel)
theorem tw_495 : (Jvm.Cond.methodLink "SquaringClockLaw" (49 : Nat) ({ cls := "SquaringClock", name := "buffer", desc := "(II)J" } : Jvm.MethodName)) ∈ qB := qB_i 495 (by decide +kernel) (by decide +kernel)
theorem tw_496 : (Jvm.Cond.instanceMethod ({ cls := "SquaringClock", name := "buffer", desc := "(II)J" } : Jvm.MethodName)) ∈ qB := qB_i 496 (by decide +kernel) (by decide +kernel)
theorem tw_497 : (Jvm.Cond.selects "SquaringClock" ({ cls := "SquaringClock", name := "buffer", desc := "(II)J" } : Jvm.MethodName) ({ cls := "SquaringClock", name := "buffer", desc := "(II)J" } : Jvm.MethodName)) ∈ qB := qB_i 497 (by decide +kernel) (by decide +kernel)
theorem tw_498 : (Jvm.Cond.code ({ cls := "SquaringClock", name := "buffer", desc := "(II)J" } : Jvm.MethodName) prog_1_method_13_code (3 : Nat) (Option.some Jvm.ClassFile.FieldType.long)) ∈ qB := qB_i 498 (by decide +kernel) (by decide +kernel)
theorem tw_499 : (Jvm.Cond.methodLink "SquaringClock" (185 : Nat) ({ cls := "SquaringClock", name := "needFilled", desc := "(I)V" } : Jvm.MethodName)) ∈ qB := qB_i 499 (by decide +kernel) (by decide +kernel)
theorem tw_501 : (Jvm.Cond.instanceMethod ({ cls := "SquaringClock", name := "needFilled", desc := "(I)V" } : Jvm.MethodName)) ∈ qB := qB_i 501 (by decide +kernel) (by decide +kernel)
theorem tw_502 : (Jvm.Cond.code ({ cls := "SquaringClock", name := "needFilled", desc := "(I)V" } : Jvm.MethodName) prog_1_method_24_code (2 : Nat) (Option.none : Option Jvm.ClassFile.FieldType)) ∈ qB := qB_i 502 (by decide +kernel) (by decide +kernel)
theorem tw_503 : (Jvm.Cond.classLink "SquaringClock" (224 : Nat) "java/util/NoSuchElementException") ∈ qB := qB_i 503 (by decide +kernel) (by decide +kernel)
theorem tw_504 : (Jvm.Cond.instantiable "java/util/NoSuchElementException" (6 : Nat)) ∈ qB := qB_i 504 (by decide +kernel) (by decide +kernel)
theorem tw_506 : (Jvm.Cond.selects "java/util/NoSuchElementException" ({ cls := "java/lang/Throwable", name := "fillInStackTrace", desc := "(I)Ljava/lang/Throwable;" } : Jvm.MethodName) ({ cls := "java/lang/Throwable", name := "fillInStackTrace", desc := "(I)Ljava/lang/Throwable;" } : Jvm.MethodName)) ∈ qB := qB_i 506 (by decide +kernel) (by decide +kernel)
theorem tw_507 : (Jvm.Cond.lays "java/util/NoSuchElementException" "java/lang/Throwable" "cause" "Ljava/lang/Throwable;") ∈ qB := qB_i 507 (by decide +kernel) (by decide +kernel)
theorem tw_508 : (Jvm.Cond.lays "java/util/NoSuchElementException" "java/lang/Throwable" "stackTrace" "[Ljava/lang/StackTraceElement;") ∈ qB := qB_i 508 (by decide +kernel) (by decide +kernel)
theorem tw_509 : (Jvm.Cond.lays "java/util/NoSuchElementException" "java/lang/Throwable" "suppressedExceptions" "Ljava/util/List;") ∈ qB := qB_i 509 (by decide +kernel) (by decide +kernel)
theorem tw_510 : (Jvm.Cond.lays "java/util/NoSuchElementException" "java/lang/Throwable" "detailMessage" "Ljava/lang/String;") ∈ qB := qB_i 510 (by decide +kernel) (by decide +kernel)
theorem tw_511 : (Jvm.Cond.lays "java/util/NoSuchElementException" "java/lang/Throwable" "backtrace" "Ljava/lang/Object;") ∈ qB := qB_i 511 (by decide +kernel) (by decide +kernel)
theorem tw_513 : (Jvm.Cond.methodLink "SquaringClock" (228 : Nat) ({ cls := "java/util/NoSuchElementException", name := "<init>", desc := "(Ljava/lang/String;)V" } : Jvm.MethodName)) ∈ qB := qB_i 513 (by decide +kernel) (by decide +kernel)
theorem tw_514 : (Jvm.Cond.instanceMethod ({ cls := "java/util/NoSuchElementException", name := "<init>", desc := "(Ljava/lang/String;)V" } : Jvm.MethodName)) ∈ qB := qB_i 514 (by decide +kernel) (by decide +kernel)
theorem tw_515 : (Jvm.Cond.code ({ cls := "java/util/NoSuchElementException", name := "<init>", desc := "(Ljava/lang/String;)V" } : Jvm.MethodName) prog_17_method_4_code (2 : Nat) (Option.none : Option Jvm.ClassFile.FieldType)) ∈ qB := qB_i 515 (by decide +kernel) (by decide +kernel)
theorem tw_516 : (Jvm.Cond.methodLink "java/util/NoSuchElementException" (13 : Nat) ({ cls := "java/lang/RuntimeException", name := "<init>", desc := "(Ljava/lang/String;)V" } : Jvm.MethodName)) ∈ qB := qB_i 516 (by decide +kernel) (by decide +kernel)
theorem tw_517 : (Jvm.Cond.lays "java/util/NoSuchElementException" "java/lang/Throwable" "depth" "I") ∈ qB := qB_i 517 (by decide +kernel) (by decide +kernel)
theorem tw_518 : (Jvm.Cond.superclass "java/util/NoSuchElementException" "java/lang/RuntimeException") ∈ qB := qB_i 518 (by decide +kernel) (by decide +kernel)
theorem tw_519 : (Jvm.Cond.methodLink "SquaringClockLaw" (128 : Nat) ({ cls := "SquaringClockLaw", name := "reduce", desc := "(LSquaringClock;II)I" } : Jvm.MethodName)) ∈ qB := qB_i 519 (by decide +kernel) (by decide +kernel)
theorem tw_520 : (Jvm.Cond.static ({ cls := "SquaringClockLaw", name := "reduce", desc := "(LSquaringClock;II)I" } : Jvm.MethodName)) ∈ qB := qB_i 520 (by decide +kernel) (by decide +kernel)
theorem tw_521 : (Jvm.Cond.codeWith ({ cls := "SquaringClockLaw", name := "reduce", desc := "(LSquaringClock;II)I" } : Jvm.MethodName) method_13_code (4 : Nat) (Option.some Jvm.ClassFile.FieldType.int) [((0 : Nat), (6 : Nat), (9 : Nat), (15 : Nat)), ((0 : Nat), (6 : Nat), (12 : Nat), (35 : Nat)), ((0 : Nat), (6 : Nat), (15 : Nat), (53 : Nat))]) ∈ qB := qB_i 521 (by decide +kernel) (by decide +kernel)
theorem tw_522 : (Jvm.Cond.methodLink "SquaringClockLaw" (55 : Nat) ({ cls := "SquaringClock", name := "reduce", desc := "(II)V" } : Jvm.MethodName)) ∈ qB := qB_i 522 (by decide +kernel) (by decide +kernel)
theorem tw_523 : (Jvm.Cond.instanceMethod ({ cls := "SquaringClock", name := "reduce", desc := "(II)V" } : Jvm.MethodName)) ∈ qB := qB_i 523 (by decide +kernel) (by decide +kernel)
theorem tw_524 : (Jvm.Cond.selects "SquaringClock" ({ cls := "SquaringClock", name := "reduce", desc := "(II)V" } : Jvm.MethodName) ({ cls := "SquaringClock", name := "reduce", desc := "(II)V" } : Jvm.MethodName)) ∈ qB := qB_i 524 (by decide +kernel) (by decide +kernel)
theorem tw_525 : (Jvm.Cond.code ({ cls := "SquaringClock", name := "reduce", desc := "(II)V" } : Jvm.MethodName) prog_1_method_14_code (3 : Nat) (Option.none : Option Jvm.ClassFile.FieldType)) ∈ qB := qB_i 525 (by decide +kernel) (by decide +kernel)
theorem tw_526 : (Jvm.Cond.methodLink "SquaringClock" (188 : Nat) ({ cls := "SquaringClock$Forms", name := "settle", desc := "(LSquaringClock$Form;)V" } : Jvm.MethodName)) ∈ qB := qB_i 526 (by decide +kernel) (by decide +kernel)
theorem tw_527 : (Jvm.Cond.methodLink "SquaringClockLaw" (132 : Nat) ({ cls := "SquaringClockLaw", name := "multiply", desc := "(LSquaringClock;III)I" } : Jvm.MethodName)) ∈ qB := qB_i 527 (by decide +kernel) (by decide +kernel)
theorem tw_528 : (Jvm.Cond.static ({ cls := "SquaringClockLaw", name := "multiply", desc := "(LSquaringClock;III)I" } : Jvm.MethodName)) ∈ qB := qB_i 528 (by decide +kernel) (by decide +kernel)
theorem tw_529 : (Jvm.Cond.codeWith ({ cls := "SquaringClockLaw", name := "multiply", desc := "(LSquaringClock;III)I" } : Jvm.MethodName) method_14_code (5 : Nat) (Option.some Jvm.ClassFile.FieldType.int) [((0 : Nat), (7 : Nat), (10 : Nat), (15 : Nat)), ((0 : Nat), (7 : Nat), (14 : Nat), (35 : Nat)), ((0 : Nat), (7 : Nat), (18 : Nat), (53 : Nat))]) ∈ qB := qB_i 529 (by decide +kernel) (by decide +kernel)
theorem tw_530 : (Jvm.Cond.methodLink "SquaringClockLaw" (59 : Nat) ({ cls := "SquaringClock", name := "multiply", desc := "(III)V" } : Jvm.MethodName)) ∈ qB := qB_i 530 (by decide +kernel) (by decide +kernel)
theorem tw_531 : (Jvm.Cond.instanceMethod ({ cls := "SquaringClock", name := "multiply", desc := "(III)V" } : Jvm.MethodName)) ∈ qB := qB_i 531 (by decide +kernel) (by decide +kernel)
theorem tw_532 : (Jvm.Cond.selects "SquaringClock" ({ cls := "SquaringClock", name := "multiply", desc := "(III)V" } : Jvm.MethodName) ({ cls := "SquaringClock", name := "multiply", desc := "(III)V" } : Jvm.MethodName)) ∈ qB := qB_i 532 (by decide +kernel) (by decide +kernel)
theorem tw_533 : (Jvm.Cond.code ({ cls := "SquaringClock", name := "multiply", desc := "(III)V" } : Jvm.MethodName) prog_1_method_15_code (4 : Nat) (Option.none : Option Jvm.ClassFile.FieldType)) ∈ qB := qB_i 533 (by decide +kernel) (by decide +kernel)
theorem tw_534 : (Jvm.Cond.methodLink "SquaringClockLaw" (135 : Nat) ({ cls := "SquaringClockLaw", name := "raise", desc := "(LSquaringClock;III)I" } : Jvm.MethodName)) ∈ qB := qB_i 534 (by decide +kernel) (by decide +kernel)
theorem tw_535 : (Jvm.Cond.static ({ cls := "SquaringClockLaw", name := "raise", desc := "(LSquaringClock;III)I" } : Jvm.MethodName)) ∈ qB := qB_i 535 (by decide +kernel) (by decide +kernel)
theorem tw_536 : (Jvm.Cond.codeWith ({ cls := "SquaringClockLaw", name := "raise", desc := "(LSquaringClock;III)I" } : Jvm.MethodName) method_15_code (5 : Nat) (Option.some Jvm.ClassFile.FieldType.int) [((0 : Nat), (7 : Nat), (10 : Nat), (15 : Nat)), ((0 : Nat), (7 : Nat), (14 : Nat), (35 : Nat)), ((0 : Nat), (7 : Nat), (18 : Nat), (13 : Nat)), ((0 : Nat), (7 : Nat), (22 : Nat), (53 : Nat))]) ∈ qB := qB_i 536 (by decide +kernel) (by decide +kernel)
theorem tw_537 : (Jvm.Cond.methodLink "SquaringClockLaw" (62 : Nat) ({ cls := "SquaringClock", name := "raise", desc := "(III)V" } : Jvm.MethodName)) ∈ qB := qB_i 537 (by decide +kernel) (by decide +kernel)
theorem tw_538 : (Jvm.Cond.instanceMethod ({ cls := "SquaringClock", name := "raise", desc := "(III)V" } : Jvm.MethodName)) ∈ qB := qB_i 538 (by decide +kernel) (by decide +kernel)
theorem tw_539 : (Jvm.Cond.selects "SquaringClock" ({ cls := "SquaringClock", name := "raise", desc := "(III)V" } : Jvm.MethodName) ({ cls := "SquaringClock", name := "raise", desc := "(III)V" } : Jvm.MethodName)) ∈ qB := qB_i 539 (by decide +kernel) (by decide +kernel)
theorem tw_540 : (Jvm.Cond.code ({ cls := "SquaringClock", name := "raise", desc := "(III)V" } : Jvm.MethodName) prog_1_method_16_code (4 : Nat) (Option.none : Option Jvm.ClassFile.FieldType)) ∈ qB := qB_i 540 (by decide +kernel) (by decide +kernel)
theorem tw_542 : (Jvm.Cond.methodLink "SquaringClockLaw" (138 : Nat) ({ cls := "SquaringClockLaw", name := "test", desc := "(LSquaringClock;I[J)I" } : Jvm.MethodName)) ∈ qB := qB_i 542 (by decide +kernel) (by decide +kernel)
theorem tw_543 : (Jvm.Cond.static ({ cls := "SquaringClockLaw", name := "test", desc := "(LSquaringClock;I[J)I" } : Jvm.MethodName)) ∈ qB := qB_i 543 (by decide +kernel) (by decide +kernel)
theorem tw_544 : (Jvm.Cond.codeWith ({ cls := "SquaringClockLaw", name := "test", desc := "(LSquaringClock;I[J)I" } : Jvm.MethodName) method_16_code (4 : Nat) (Option.some Jvm.ClassFile.FieldType.int) [((0 : Nat), (9 : Nat), (12 : Nat), (15 : Nat)), ((0 : Nat), (9 : Nat), (15 : Nat), (35 : Nat)), ((0 : Nat), (9 : Nat), (18 : Nat), (53 : Nat))]) ∈ qB := qB_i 544 (by decide +kernel) (by decide +kernel)
theorem tw_545 : (Jvm.Cond.methodLink "SquaringClockLaw" (65 : Nat) ({ cls := "SquaringClock", name := "test", desc := "(I)I" } : Jvm.MethodName)) ∈ qB := qB_i 545 (by decide +kernel) (by decide +kernel)
theorem tw_546 : (Jvm.Cond.instanceMethod ({ cls := "SquaringClock", name := "test", desc := "(I)I" } : Jvm.MethodName)) ∈ qB := qB_i 546 (by decide +kernel) (by decide +kernel)
theorem tw_547 : (Jvm.Cond.selects "SquaringClock" ({ cls := "SquaringClock", name := "test", desc := "(I)I" } : Jvm.MethodName) ({ cls := "SquaringClock", name := "test", desc := "(I)I" } : Jvm.MethodName)) ∈ qB := qB_i 547 (by decide +kernel) (by decide +kernel)
theorem tw_548 : (Jvm.Cond.code ({ cls := "SquaringClock", name := "test", desc := "(I)I" } : Jvm.MethodName) prog_1_method_17_code (7 : Nat) (Option.some Jvm.ClassFile.FieldType.int)) ∈ qB := qB_i 548 (by decide +kernel) (by decide +kernel)
theorem tw_549 : (Jvm.Cond.methodLink "SquaringClock" (193 : Nat) ({ cls := "SquaringClock$Form", name := "isSame", desc := "(LSquaringClock$Form;)Z" } : Jvm.MethodName)) ∈ qB := qB_i 549 (by decide +kernel) (by decide +kernel)
theorem tw_550 : (Jvm.Cond.methodLink "SquaringClock" (197 : Nat) ({ cls := "SquaringClock$Form", name := "isReduced", desc := "()Z" } : Jvm.MethodName)) ∈ qB := qB_i 550 (by decide +kernel) (by decide +kernel)
theorem tw_551 : (Jvm.Cond.methodLink "SquaringClockLaw" (141 : Nat) ({ cls := "SquaringClockLaw", name := "order", desc := "(LSquaringClock;I[J)I" } : Jvm.MethodName)) ∈ qB := qB_i 551 (by decide +kernel) (by decide +kernel)
theorem tw_552 : (Jvm.Cond.static ({ cls := "SquaringClockLaw", name := "order", desc := "(LSquaringClock;I[J)I" } : Jvm.MethodName)) ∈ qB := qB_i 552 (by decide +kernel) (by decide +kernel)
theorem tw_553 : (Jvm.Cond.codeWith ({ cls := "SquaringClockLaw", name := "order", desc := "(LSquaringClock;I[J)I" } : Jvm.MethodName) method_17_code (4 : Nat) (Option.some Jvm.ClassFile.FieldType.int) [((0 : Nat), (9 : Nat), (12 : Nat), (15 : Nat)), ((0 : Nat), (9 : Nat), (15 : Nat), (13 : Nat))]) ∈ qB := qB_i 553 (by decide +kernel) (by decide +kernel)
theorem tw_554 : (Jvm.Cond.methodLink "SquaringClockLaw" (68 : Nat) ({ cls := "SquaringClock", name := "order", desc := "(I)I" } : Jvm.MethodName)) ∈ qB := qB_i 554 (by decide +kernel) (by decide +kernel)
theorem tw_555 : (Jvm.Cond.instanceMethod ({ cls := "SquaringClock", name := "order", desc := "(I)I" } : Jvm.MethodName)) ∈ qB := qB_i 555 (by decide +kernel) (by decide +kernel)
theorem tw_556 : (Jvm.Cond.selects "SquaringClock" ({ cls := "SquaringClock", name := "order", desc := "(I)I" } : Jvm.MethodName) ({ cls := "SquaringClock", name := "order", desc := "(I)I" } : Jvm.MethodName)) ∈ qB := qB_i 556 (by decide +kernel) (by decide +kernel)
theorem tw_557 : (Jvm.Cond.code ({ cls := "SquaringClock", name := "order", desc := "(I)I" } : Jvm.MethodName) prog_1_method_18_code (2 : Nat) (Option.some Jvm.ClassFile.FieldType.int)) ∈ qB := qB_i 557 (by decide +kernel) (by decide +kernel)
theorem tw_559 : (Jvm.Cond.methodLink "SquaringClock" (203 : Nat) ({ cls := "SquaringClock$Forms", name := "generatorsOrder", desc := "(I)I" } : Jvm.MethodName)) ∈ qB := qB_i 559 (by decide +kernel) (by decide +kernel)
theorem tw_560 : (Jvm.Cond.instanceMethod ({ cls := "SquaringClock$Forms", name := "generatorsOrder", desc := "(I)I" } : Jvm.MethodName)) ∈ qB := qB_i 560 (by decide +kernel) (by decide +kernel)
theorem tw_561 : (Jvm.Cond.selects "SquaringClock$Forms" ({ cls := "SquaringClock$Forms", name := "generatorsOrder", desc := "(I)I" } : Jvm.MethodName) ({ cls := "SquaringClock$Forms", name := "generatorsOrder", desc := "(I)I" } : Jvm.MethodName)) ∈ qB := qB_i 561 (by decide +kernel) (by decide +kernel)
theorem tw_562 : (Jvm.Cond.code ({ cls := "SquaringClock$Forms", name := "generatorsOrder", desc := "(I)I" } : Jvm.MethodName) prog_4_method_13_code (3 : Nat) (Option.some Jvm.ClassFile.FieldType.int)) ∈ qB := qB_i 562 (by decide +kernel) (by decide +kernel)
theorem tw_563 : (Jvm.Cond.methodLink "SquaringClockLaw" (144 : Nat) ({ cls := "SquaringClockLaw", name := "classes", desc := "(LSquaringClock;[J)I" } : Jvm.MethodName)) ∈ qB := qB_i 563 (by decide +kernel) (by decide +kernel)
theorem tw_564 : (Jvm.Cond.static ({ cls := "SquaringClockLaw", name := "classes", desc := "(LSquaringClock;[J)I" } : Jvm.MethodName)) ∈ qB := qB_i 564 (by decide +kernel) (by decide +kernel)
theorem tw_565 : (Jvm.Cond.codeWith ({ cls := "SquaringClockLaw", name := "classes", desc := "(LSquaringClock;[J)I" } : Jvm.MethodName) method_18_code (3 : Nat) (Option.some Jvm.ClassFile.FieldType.int) [((0 : Nat), (8 : Nat), (11 : Nat), (15 : Nat)), ((0 : Nat), (8 : Nat), (14 : Nat), (13 : Nat))]) ∈ qB := qB_i 565 (by decide +kernel) (by decide +kernel)
theorem tw_566 : (Jvm.Cond.methodLink "SquaringClockLaw" (71 : Nat) ({ cls := "SquaringClock", name := "classes", desc := "()I" } : Jvm.MethodName)) ∈ qB := qB_i 566 (by decide +kernel) (by decide +kernel)
theorem tw_567 : (Jvm.Cond.instanceMethod ({ cls := "SquaringClock", name := "classes", desc := "()I" } : Jvm.MethodName)) ∈ qB := qB_i 567 (by decide +kernel) (by decide +kernel)
theorem tw_568 : (Jvm.Cond.selects "SquaringClock" ({ cls := "SquaringClock", name := "classes", desc := "()I" } : Jvm.MethodName) ({ cls := "SquaringClock", name := "classes", desc := "()I" } : Jvm.MethodName)) ∈ qB := qB_i 568 (by decide +kernel) (by decide +kernel)
theorem tw_569 : (Jvm.Cond.code ({ cls := "SquaringClock", name := "classes", desc := "()I" } : Jvm.MethodName) prog_1_method_19_code (1 : Nat) (Option.some Jvm.ClassFile.FieldType.int)) ∈ qB := qB_i 569 (by decide +kernel) (by decide +kernel)
theorem tw_570 : (Jvm.Cond.constant "SquaringClock" (210 : Nat) (50000 : Int32)) ∈ qB := qB_i 570 (by decide +kernel) (by decide +kernel)
theorem tw_572 : (Jvm.Cond.methodLink "SquaringClock" (213 : Nat) ({ cls := "SquaringClock$Forms", name := "countReduced", desc := "()I" } : Jvm.MethodName)) ∈ qB := qB_i 572 (by decide +kernel) (by decide +kernel)
theorem tw_573 : (Jvm.Cond.instanceMethod ({ cls := "SquaringClock$Forms", name := "countReduced", desc := "()I" } : Jvm.MethodName)) ∈ qB := qB_i 573 (by decide +kernel) (by decide +kernel)
theorem tw_574 : (Jvm.Cond.selects "SquaringClock$Forms" ({ cls := "SquaringClock$Forms", name := "countReduced", desc := "()I" } : Jvm.MethodName) ({ cls := "SquaringClock$Forms", name := "countReduced", desc := "()I" } : Jvm.MethodName)) ∈ qB := qB_i 574 (by decide +kernel) (by decide +kernel)
theorem tw_575 : (Jvm.Cond.code ({ cls := "SquaringClock$Forms", name := "countReduced", desc := "()I" } : Jvm.MethodName) prog_4_method_14_code (8 : Nat) (Option.some Jvm.ClassFile.FieldType.int)) ∈ qB := qB_i 575 (by decide +kernel) (by decide +kernel)
theorem tw_576 : (Jvm.Cond.constantLong "SquaringClock$Forms" (126 : Nat) (3 : Int64)) ∈ qB := qB_i 576 (by decide +kernel) (by decide +kernel)
theorem tw_577 : (Jvm.Cond.classLink "SquaringClockLaw" (75 : Nat) "SquaringClockModel") ∈ qB := qB_i 577 (by decide +kernel) (by decide +kernel)
theorem tw_578 : (Jvm.Cond.instantiable "SquaringClockModel" (12 : Nat)) ∈ qB := qB_i 578 (by decide +kernel) (by decide +kernel)
theorem tw_579 : (Jvm.Cond.methodLink "SquaringClockLaw" (77 : Nat) ({ cls := "SquaringClockModel", name := "<init>", desc := "()V" } : Jvm.MethodName)) ∈ qB := qB_i 579 (by decide +kernel) (by decide +kernel)
theorem tw_580 : (Jvm.Cond.instanceMethod ({ cls := "SquaringClockModel", name := "<init>", desc := "()V" } : Jvm.MethodName)) ∈ qB := qB_i 580 (by decide +kernel) (by decide +kernel)
theorem tw_581 : (Jvm.Cond.code ({ cls := "SquaringClockModel", name := "<init>", desc := "()V" } : Jvm.MethodName) prog_7_method_1_code (1 : Nat) (Option.none : Option Jvm.ClassFile.FieldType)) ∈ qB := qB_i 581 (by decide +kernel) (by decide +kernel)
theorem tw_582 : (Jvm.Cond.methodLink "SquaringClockModel" (1 : Nat) ({ cls := "java/lang/Object", name := "<init>", desc := "()V" } : Jvm.MethodName)) ∈ qB := qB_i 582 (by decide +kernel) (by decide +kernel)
theorem tw_583 : (Jvm.Cond.fieldLink "SquaringClockModel" (27 : Nat) "SquaringClockModel" "thrown" "I") ∈ qB := qB_i 583 (by decide +kernel) (by decide +kernel)
theorem tw_584 : (Jvm.Cond.fieldLink "SquaringClockModel" (90 : Nat) "SquaringClockModel" "d" "J") ∈ qB := qB_i 584 (by decide +kernel) (by decide +kernel)
theorem tw_585 : (Jvm.Cond.fieldLink "SquaringClockModel" (7 : Nat) "SquaringClockModel" "as" "[J") ∈ qB := qB_i 585 (by decide +kernel) (by decide +kernel)
theorem tw_586 : (Jvm.Cond.fieldLink "SquaringClockModel" (13 : Nat) "SquaringClockModel" "bs" "[J") ∈ qB := qB_i 586 (by decide +kernel) (by decide +kernel)
theorem tw_587 : (Jvm.Cond.fieldLink "SquaringClockModel" (16 : Nat) "SquaringClockModel" "cs" "[J") ∈ qB := qB_i 587 (by decide +kernel) (by decide +kernel)
theorem tw_588 : (Jvm.Cond.fieldLink "SquaringClockModel" (19 : Nat) "SquaringClockModel" "filled" "[Z") ∈ qB := qB_i 588 (by decide +kernel) (by decide +kernel)
theorem tw_589 : (Jvm.Cond.fieldLink "SquaringClockModel" (86 : Nat) "SquaringClockModel" "running" "Z") ∈ qB := qB_i 589 (by decide +kernel) (by decide +kernel)
theorem tw_590 : (Jvm.Cond.fieldLink "SquaringClockModel" (94 : Nat) "SquaringClockModel" "booked" "I") ∈ qB := qB_i 590 (by decide +kernel) (by decide +kernel)
theorem tw_591 : (Jvm.Cond.fieldLink "SquaringClockModel" (23 : Nat) "SquaringClockModel" "facts" "[I") ∈ qB := qB_i 591 (by decide +kernel) (by decide +kernel)
theorem tw_592 : (Jvm.Cond.fieldLink "SquaringClockModel" (108 : Nat) "SquaringClockModel" "squarings" "I") ∈ qB := qB_i 592 (by decide +kernel) (by decide +kernel)
theorem tw_593 : (Jvm.Cond.fieldLink "SquaringClockModel" (111 : Nat) "SquaringClockModel" "steps" "I") ∈ qB := qB_i 593 (by decide +kernel) (by decide +kernel)
theorem tw_594 : (Jvm.Cond.fieldLink "SquaringClockModel" (114 : Nat) "SquaringClockModel" "rest" "I") ∈ qB := qB_i 594 (by decide +kernel) (by decide +kernel)
theorem tw_595 : (Jvm.Cond.lays "SquaringClockModel" "SquaringClockModel" "thrown" "I") ∈ qB := qB_i 595 (by decide +kernel) (by decide +kernel)
theorem tw_596 : (Jvm.Cond.soleField "SquaringClockModel" "thrown") ∈ qB := qB_i 596 (by decide +kernel) (by decide +kernel)
theorem tw_597 : (Jvm.Cond.lays "SquaringClockModel" "SquaringClockModel" "d" "J") ∈ qB := qB_i 597 (by decide +kernel) (by decide +kernel)
theorem tw_598 : (Jvm.Cond.soleField "SquaringClockModel" "d") ∈ qB := qB_i 598 (by decide +kernel) (by decide +kernel)
theorem tw_599 : (Jvm.Cond.laysFinal "SquaringClockModel" "SquaringClockModel" "as" "[J") ∈ qB := qB_i 599 (by decide +kernel) (by decide +kernel)
theorem tw_600 : (Jvm.Cond.soleField "SquaringClockModel" "as") ∈ qB := qB_i 600 (by decide +kernel) (by decide +kernel)
theorem tw_601 : (Jvm.Cond.laysFinal "SquaringClockModel" "SquaringClockModel" "bs" "[J") ∈ qB := qB_i 601 (by decide +kernel) (by decide +kernel)
theorem tw_602 : (Jvm.Cond.soleField "SquaringClockModel" "bs") ∈ qB := qB_i 602 (by decide +kernel) (by decide +kernel)
theorem tw_603 : (Jvm.Cond.laysFinal "SquaringClockModel" "SquaringClockModel" "cs" "[J") ∈ qB := qB_i 603 (by decide +kernel) (by decide +kernel)
theorem tw_604 : (Jvm.Cond.soleField "SquaringClockModel" "cs") ∈ qB := qB_i 604 (by decide +kernel) (by decide +kernel)
theorem tw_605 : (Jvm.Cond.laysFinal "SquaringClockModel" "SquaringClockModel" "filled" "[Z") ∈ qB := qB_i 605 (by decide +kernel) (by decide +kernel)
theorem tw_606 : (Jvm.Cond.soleField "SquaringClockModel" "filled") ∈ qB := qB_i 606 (by decide +kernel) (by decide +kernel)
theorem tw_607 : (Jvm.Cond.lays "SquaringClockModel" "SquaringClockModel" "running" "Z") ∈ qB := qB_i 607 (by decide +kernel) (by decide +kernel)
theorem tw_608 : (Jvm.Cond.soleField "SquaringClockModel" "running") ∈ qB := qB_i 608 (by decide +kernel) (by decide +kernel)
theorem tw_609 : (Jvm.Cond.lays "SquaringClockModel" "SquaringClockModel" "booked" "I") ∈ qB := qB_i 609 (by decide +kernel) (by decide +kernel)
theorem tw_610 : (Jvm.Cond.soleField "SquaringClockModel" "booked") ∈ qB := qB_i 610 (by decide +kernel) (by decide +kernel)
theorem tw_611 : (Jvm.Cond.laysFinal "SquaringClockModel" "SquaringClockModel" "facts" "[I") ∈ qB := qB_i 611 (by decide +kernel) (by decide +kernel)
theorem tw_612 : (Jvm.Cond.soleField "SquaringClockModel" "facts") ∈ qB := qB_i 612 (by decide +kernel) (by decide +kernel)
theorem tw_613 : (Jvm.Cond.lays "SquaringClockModel" "SquaringClockModel" "squarings" "I") ∈ qB := qB_i 613 (by decide +kernel) (by decide +kernel)
theorem tw_614 : (Jvm.Cond.soleField "SquaringClockModel" "squarings") ∈ qB := qB_i 614 (by decide +kernel) (by decide +kernel)
theorem tw_615 : (Jvm.Cond.lays "SquaringClockModel" "SquaringClockModel" "steps" "I") ∈ qB := qB_i 615 (by decide +kernel) (by decide +kernel)
theorem tw_616 : (Jvm.Cond.soleField "SquaringClockModel" "steps") ∈ qB := qB_i 616 (by decide +kernel) (by decide +kernel)
theorem tw_617 : (Jvm.Cond.lays "SquaringClockModel" "SquaringClockModel" "rest" "I") ∈ qB := qB_i 617 (by decide +kernel) (by decide +kernel)
theorem tw_618 : (Jvm.Cond.soleField "SquaringClockModel" "rest") ∈ qB := qB_i 618 (by decide +kernel) (by decide +kernel)
theorem tw_619 : (Jvm.Cond.superclass "SquaringClockModel" "java/lang/Object") ∈ qB := qB_i 619 (by decide +kernel) (by decide +kernel)
theorem tw_620 : (Jvm.Cond.arrayClass Jvm.ClassFile.FieldType.long) ∈ qB := qB_i 620 (by decide +kernel) (by decide +kernel)
theorem tw_621 : (Jvm.Cond.arrayClass Jvm.ClassFile.FieldType.int) ∈ qB := qB_i 621 (by decide +kernel) (by decide +kernel)
theorem tw_622 : (Jvm.Cond.methodLink "SquaringClockLaw" (84 : Nat) ({ cls := "SquaringClockModel", name := "thrown", desc := "()I" } : Jvm.MethodName)) ∈ qB := qB_i 622 (by decide +kernel) (by decide +kernel)
theorem tw_623 : (Jvm.Cond.instanceMethod ({ cls := "SquaringClockModel", name := "thrown", desc := "()I" } : Jvm.MethodName)) ∈ qB := qB_i 623 (by decide +kernel) (by decide +kernel)
theorem tw_624 : (Jvm.Cond.selects "SquaringClockModel" ({ cls := "SquaringClockModel", name := "thrown", desc := "()I" } : Jvm.MethodName) ({ cls := "SquaringClockModel", name := "thrown", desc := "()I" } : Jvm.MethodName)) ∈ qB := qB_i 624 (by decide +kernel) (by decide +kernel)
theorem tw_625 : (Jvm.Cond.code ({ cls := "SquaringClockModel", name := "thrown", desc := "()I" } : Jvm.MethodName) prog_7_method_2_code (1 : Nat) (Option.some Jvm.ClassFile.FieldType.int)) ∈ qB := qB_i 625 (by decide +kernel) (by decide +kernel)
theorem tw_626 : (Jvm.Cond.methodLink "SquaringClockLaw" (83 : Nat) ({ cls := "SquaringClockModel", name := "discriminant", desc := "(I)V" } : Jvm.MethodName)) ∈ qB := qB_i 626 (by decide +kernel) (by decide +kernel)
theorem tw_627 : (Jvm.Cond.instanceMethod ({ cls := "SquaringClockModel", name := "discriminant", desc := "(I)V" } : Jvm.MethodName)) ∈ qB := qB_i 627 (by decide +kernel) (by decide +kernel)
theorem tw_628 : (Jvm.Cond.selects "SquaringClockModel" ({ cls := "SquaringClockModel", name := "discriminant", desc := "(I)V" } : Jvm.MethodName) ({ cls := "SquaringClockModel", name := "discriminant", desc := "(I)V" } : Jvm.MethodName)) ∈ qB := qB_i 628 (by decide +kernel) (by decide +kernel)
theorem tw_629 : (Jvm.Cond.code ({ cls := "SquaringClockModel", name := "discriminant", desc := "(I)V" } : Jvm.MethodName) prog_7_method_20_code (3 : Nat) (Option.none : Option Jvm.ClassFile.FieldType)) ∈ qB := qB_i 629 (by decide +kernel) (by decide +kernel)
theorem tw_630 : (Jvm.Cond.constant "SquaringClockModel" (85 : Nat) (1000000000 : Int32)) ∈ qB := qB_i 630 (by decide +kernel) (by decide +kernel)
theorem tw_631 : (Jvm.Cond.constantLong "SquaringClockModel" (97 : Nat) (4 : Int64)) ∈ qB := qB_i 631 (by decide +kernel) (by decide +kernel)
theorem tw_632 : (Jvm.Cond.methodLink "SquaringClockModel" (35 : Nat) ({ cls := "SquaringClockModel", name := "set", desc := "(IJJJ)V" } : Jvm.MethodName)) ∈ qB := qB_i 632 (by decide +kernel) (by decide +kernel)
theorem tw_634 : (Jvm.Cond.instanceMethod ({ cls := "SquaringClockModel", name := "set", desc := "(IJJJ)V" } : Jvm.MethodName)) ∈ qB := qB_i 634 (by decide +kernel) (by decide +kernel)
theorem tw_635 : (Jvm.Cond.code ({ cls := "SquaringClockModel", name := "set", desc := "(IJJJ)V" } : Jvm.MethodName) prog_7_method_7_code (8 : Nat) (Option.none : Option Jvm.ClassFile.FieldType)) ∈ qB := qB_i 635 (by decide +kernel) (by decide +kernel)
theorem tw_636 : (Jvm.Cond.constantLong "SquaringClockModel" (43 : Nat) (2 : Int64)) ∈ qB := qB_i 636 (by decide +kernel) (by decide +kernel)
theorem tw_637 : (Jvm.Cond.constantLong "SquaringClockModel" (99 : Nat) (8 : Int64)) ∈ qB := qB_i 637 (by decide +kernel) (by decide +kernel)
theorem tw_638 : (Jvm.Cond.methodLink "SquaringClockModel" (58 : Nat) ({ cls := "SquaringClockModel", name := "settle", desc := "(I)V" } : Jvm.MethodName)) ∈ qB := qB_i 638 (by decide +kernel) (by decide +kernel)
theorem tw_640 : (Jvm.Cond.instanceMethod ({ cls := "SquaringClockModel", name := "settle", desc := "(I)V" } : Jvm.MethodName)) ∈ qB := qB_i 640 (by decide +kernel) (by decide +kernel)
theorem tw_641 : (Jvm.Cond.code ({ cls := "SquaringClockModel", name := "settle", desc := "(I)V" } : Jvm.MethodName) prog_7_method_11_code (6 : Nat) (Option.none : Option Jvm.ClassFile.FieldType)) ∈ qB := qB_i 641 (by decide +kernel) (by decide +kernel)
theorem tw_642 : (Jvm.Cond.methodLink "SquaringClockModel" (39 : Nat) ({ cls := "SquaringClockModel", name := "isReduced", desc := "(I)Z" } : Jvm.MethodName)) ∈ qB := qB_i 642 (by decide +kernel) (by decide +kernel)
theorem tw_644 : (Jvm.Cond.instanceMethod ({ cls := "SquaringClockModel", name := "isReduced", desc := "(I)Z" } : Jvm.MethodName)) ∈ qB := qB_i 644 (by decide +kernel) (by decide +kernel)
theorem tw_645 : (Jvm.Cond.code ({ cls := "SquaringClockModel", name := "isReduced", desc := "(I)Z" } : Jvm.MethodName) prog_7_method_10_code (2 : Nat) (Option.some Jvm.ClassFile.FieldType.boolean)) ∈ qB := qB_i 645 (by decide +kernel) (by decide +kernel)
theorem tw_646 : (Jvm.Cond.methodLink "SquaringClockModel" (45 : Nat) ({ cls := "SquaringClockModel", name := "down", desc := "(JJ)J" } : Jvm.MethodName)) ∈ qB := qB_i 646 (by decide +kernel) (by decide +kernel)
theorem tw_647 : (Jvm.Cond.static ({ cls := "SquaringClockModel", name := "down", desc := "(JJ)J" } : Jvm.MethodName)) ∈ qB := qB_i 647 (by decide +kernel) (by decide +kernel)
theorem tw_648 : (Jvm.Cond.code ({ cls := "SquaringClockModel", name := "down", desc := "(JJ)J" } : Jvm.MethodName) prog_7_method_4_code (6 : Nat) (Option.some Jvm.ClassFile.FieldType.long)) ∈ qB := qB_i 648 (by decide +kernel) (by decide +kernel)
theorem tw_649 : (Jvm.Cond.methodLink "SquaringClockLaw" (90 : Nat) ({ cls := "SquaringClockModel", name := "begin", desc := "(I)I" } : Jvm.MethodName)) ∈ qB := qB_i 649 (by decide +kernel) (by decide +kernel)
theorem tw_650 : (Jvm.Cond.instanceMethod ({ cls := "SquaringClockModel", name := "begin", desc := "(I)I" } : Jvm.MethodName)) ∈ qB := qB_i 650 (by decide +kernel) (by decide +kernel)
theorem tw_651 : (Jvm.Cond.selects "SquaringClockModel" ({ cls := "SquaringClockModel", name := "begin", desc := "(I)I" } : Jvm.MethodName) ({ cls := "SquaringClockModel", name := "begin", desc := "(I)I" } : Jvm.MethodName)) ∈ qB := qB_i 651 (by decide +kernel) (by decide +kernel)
theorem tw_652 : (Jvm.Cond.code ({ cls := "SquaringClockModel", name := "begin", desc := "(I)I" } : Jvm.MethodName) prog_7_method_22_code (3 : Nat) (Option.some Jvm.ClassFile.FieldType.int)) ∈ qB := qB_i 652 (by decide +kernel) (by decide +kernel)
theorem tw_653 : (Jvm.Cond.methodLink "SquaringClockModel" (101 : Nat) ({ cls := "SquaringClockModel", name := "isAny", desc := "()Z" } : Jvm.MethodName)) ∈ qB := qB_i 653 (by decide +kernel) (by decide +kernel)
theorem tw_655 : (Jvm.Cond.instanceMethod ({ cls := "SquaringClockModel", name := "isAny", desc := "()Z" } : Jvm.MethodName)) ∈ qB := qB_i 655 (by decide +kernel) (by decide +kernel)
theorem tw_656 : (Jvm.Cond.code ({ cls := "SquaringClockModel", name := "isAny", desc := "()Z" } : Jvm.MethodName) prog_7_method_21_code (1 : Nat) (Option.some Jvm.ClassFile.FieldType.boolean)) ∈ qB := qB_i 656 (by decide +kernel) (by decide +kernel)
theorem tw_657 : (Jvm.Cond.methodLink "SquaringClockModel" (74 : Nat) ({ cls := "SquaringClockModel", name := "mix", desc := "(II)I" } : Jvm.MethodName)) ∈ qB := qB_i 657 (by decide +kernel) (by decide +kernel)
theorem tw_658 : (Jvm.Cond.static ({ cls := "SquaringClockModel", name := "mix", desc := "(II)I" } : Jvm.MethodName)) ∈ qB := qB_i 658 (by decide +kernel) (by decide +kernel)
theorem tw_659 : (Jvm.Cond.code ({ cls := "SquaringClockModel", name := "mix", desc := "(II)I" } : Jvm.MethodName) prog_7_method_16_code (3 : Nat) (Option.some Jvm.ClassFile.FieldType.int)) ∈ qB := qB_i 659 (by decide +kernel) (by decide +kernel)
theorem tw_660 : (Jvm.Cond.constant "SquaringClockModel" (73 : Nat) (1540483477 : Int32)) ∈ qB := qB_i 660 (by decide +kernel) (by decide +kernel)
theorem tw_661 : (Jvm.Cond.methodLink "SquaringClockModel" (78 : Nat) ({ cls := "SquaringClockModel", name := "mixForm", desc := "(II)I" } : Jvm.MethodName)) ∈ qB := qB_i 661 (by decide +kernel) (by decide +kernel)
theorem tw_663 : (Jvm.Cond.instanceMethod ({ cls := "SquaringClockModel", name := "mixForm", desc := "(II)I" } : Jvm.MethodName)) ∈ qB := qB_i 663 (by decide +kernel) (by decide +kernel)
theorem tw_664 : (Jvm.Cond.code ({ cls := "SquaringClockModel", name := "mixForm", desc := "(II)I" } : Jvm.MethodName) prog_7_method_17_code (3 : Nat) (Option.some Jvm.ClassFile.FieldType.int)) ∈ qB := qB_i 664 (by decide +kernel) (by decide +kernel)
theorem tw_665 : (Jvm.Cond.constant "SquaringClockModel" (81 : Nat) (65535 : Int32)) ∈ qB := qB_i 665 (by decide +kernel) (by decide +kernel)
theorem tw_666 : (Jvm.Cond.methodLink "SquaringClockModel" (105 : Nat) ({ cls := "SquaringClockModel", name := "raiseTo", desc := "(III)V" } : Jvm.MethodName)) ∈ qB := qB_i 666 (by decide +kernel) (by decide +kernel)
theorem tw_668 : (Jvm.Cond.instanceMethod ({ cls := "SquaringClockModel", name := "raiseTo", desc := "(III)V" } : Jvm.MethodName)) ∈ qB := qB_i 668 (by decide +kernel) (by decide +kernel)
theorem tw_669 : (Jvm.Cond.code ({ cls := "SquaringClockModel", name := "raiseTo", desc := "(III)V" } : Jvm.MethodName) prog_7_method_15_code (5 : Nat) (Option.none : Option Jvm.ClassFile.FieldType)) ∈ qB := qB_i 669 (by decide +kernel) (by decide +kernel)
theorem tw_670 : (Jvm.Cond.methodLink "SquaringClockModel" (62 : Nat) ({ cls := "SquaringClockModel", name := "copy", desc := "(II)V" } : Jvm.MethodName)) ∈ qB := qB_i 670 (by decide +kernel) (by decide +kernel)
theorem tw_672 : (Jvm.Cond.instanceMethod ({ cls := "SquaringClockModel", name := "copy", desc := "(II)V" } : Jvm.MethodName)) ∈ qB := qB_i 672 (by decide +kernel) (by decide +kernel)
theorem tw_673 : (Jvm.Cond.code ({ cls := "SquaringClockModel", name := "copy", desc := "(II)V" } : Jvm.MethodName) prog_7_method_8_code (3 : Nat) (Option.none : Option Jvm.ClassFile.FieldType)) ∈ qB := qB_i 673 (by decide +kernel) (by decide +kernel)
theorem tw_674 : (Jvm.Cond.methodLink "SquaringClockModel" (69 : Nat) ({ cls := "SquaringClockModel", name := "times", desc := "(III)V" } : Jvm.MethodName)) ∈ qB := qB_i 674 (by decide +kernel) (by decide +kernel)
theorem tw_676 : (Jvm.Cond.instanceMethod ({ cls := "SquaringClockModel", name := "times", desc := "(III)V" } : Jvm.MethodName)) ∈ qB := qB_i 676 (by decide +kernel) (by decide +kernel)
theorem tw_677 : (Jvm.Cond.code ({ cls := "SquaringClockModel", name := "times", desc := "(III)V" } : Jvm.MethodName) prog_7_method_14_code (10 : Nat) (Option.none : Option Jvm.ClassFile.FieldType)) ∈ qB := qB_i 677 (by decide +kernel) (by decide +kernel)
theorem tw_678 : (Jvm.Cond.methodLink "SquaringClockModel" (66 : Nat) ({ cls := "SquaringClockModel", name := "unite", desc := "(I)V" } : Jvm.MethodName)) ∈ qB := qB_i 678 (by decide +kernel) (by decide +kernel)
theorem tw_680 : (Jvm.Cond.instanceMethod ({ cls := "SquaringClockModel", name := "unite", desc := "(I)V" } : Jvm.MethodName)) ∈ qB := qB_i 680 (by decide +kernel) (by decide +kernel)
theorem tw_681 : (Jvm.Cond.code ({ cls := "SquaringClockModel", name := "unite", desc := "(I)V" } : Jvm.MethodName) prog_7_method_13_code (27 : Nat) (Option.none : Option Jvm.ClassFile.FieldType)) ∈ qB := qB_i 681 (by decide +kernel) (by decide +kernel)
theorem tw_682 : (Jvm.Cond.methodLink "SquaringClockModel" (48 : Nat) ({ cls := "SquaringClockModel", name := "divisor", desc := "(JJ)J" } : Jvm.MethodName)) ∈ qB := qB_i 682 (by decide +kernel) (by decide +kernel)
theorem tw_683 : (Jvm.Cond.static ({ cls := "SquaringClockModel", name := "divisor", desc := "(JJ)J" } : Jvm.MethodName)) ∈ qB := qB_i 683 (by decide +kernel) (by decide +kernel)
theorem tw_684 : (Jvm.Cond.code ({ cls := "SquaringClockModel", name := "divisor", desc := "(JJ)J" } : Jvm.MethodName) prog_7_method_3_code (10 : Nat) (Option.some Jvm.ClassFile.FieldType.long)) ∈ qB := qB_i 684 (by decide +kernel) (by decide +kernel)
theorem tw_685 : (Jvm.Cond.methodLink "SquaringClockModel" (51 : Nat) ({ cls := "SquaringClockModel", name := "valueOf", desc := "(JJJJJ)J" } : Jvm.MethodName)) ∈ qB := qB_i 685 (by decide +kernel) (by decide +kernel)
theorem tw_686 : (Jvm.Cond.static ({ cls := "SquaringClockModel", name := "valueOf", desc := "(JJJJJ)J" } : Jvm.MethodName)) ∈ qB := qB_i 686 (by decide +kernel) (by decide +kernel)
theorem tw_687 : (Jvm.Cond.code ({ cls := "SquaringClockModel", name := "valueOf", desc := "(JJJJJ)J" } : Jvm.MethodName) prog_7_method_12_code (10 : Nat) (Option.some Jvm.ClassFile.FieldType.long)) ∈ qB := qB_i 687 (by decide +kernel) (by decide +kernel)
theorem tw_688 : (Jvm.Cond.methodLink "SquaringClockModel" (55 : Nat) ({ cls := "SquaringClockModel", name := "inverse", desc := "(JJ)J" } : Jvm.MethodName)) ∈ qB := qB_i 688 (by decide +kernel) (by decide +kernel)
theorem tw_689 : (Jvm.Cond.static ({ cls := "SquaringClockModel", name := "inverse", desc := "(JJ)J" } : Jvm.MethodName)) ∈ qB := qB_i 689 (by decide +kernel) (by decide +kernel)
theorem tw_690 : (Jvm.Cond.code ({ cls := "SquaringClockModel", name := "inverse", desc := "(JJ)J" } : Jvm.MethodName) prog_7_method_6_code (16 : Nat) (Option.some Jvm.ClassFile.FieldType.long)) ∈ qB := qB_i 690 (by decide +kernel) (by decide +kernel)
theorem tw_691 : (Jvm.Cond.methodLink "SquaringClockModel" (31 : Nat) ({ cls := "SquaringClockModel", name := "modulo", desc := "(JJ)J" } : Jvm.MethodName)) ∈ qB := qB_i 691 (by decide +kernel) (by decide +kernel)
theorem tw_692 : (Jvm.Cond.static ({ cls := "SquaringClockModel", name := "modulo", desc := "(JJ)J" } : Jvm.MethodName)) ∈ qB := qB_i 692 (by decide +kernel) (by decide +kernel)
theorem tw_693 : (Jvm.Cond.code ({ cls := "SquaringClockModel", name := "modulo", desc := "(JJ)J" } : Jvm.MethodName) prog_7_method_5_code (6 : Nat) (Option.some Jvm.ClassFile.FieldType.long)) ∈ qB := qB_i 693 (by decide +kernel) (by decide +kernel)
theorem tw_694 : (Jvm.Cond.methodLink "SquaringClockLaw" (93 : Nat) ({ cls := "SquaringClockModel", name := "work", desc := "(I)I" } : Jvm.MethodName)) ∈ qB := qB_i 694 (by decide +kernel) (by decide +kernel)
theorem tw_695 : (Jvm.Cond.instanceMethod ({ cls := "SquaringClockModel", name := "work", desc := "(I)I" } : Jvm.MethodName)) ∈ qB := qB_i 695 (by decide +kernel) (by decide +kernel)
theorem tw_696 : (Jvm.Cond.selects "SquaringClockModel" ({ cls := "SquaringClockModel", name := "work", desc := "(I)I" } : Jvm.MethodName) ({ cls := "SquaringClockModel", name := "work", desc := "(I)I" } : Jvm.MethodName)) ∈ qB := qB_i 696 (by decide +kernel) (by decide +kernel)
theorem tw_697 : (Jvm.Cond.code ({ cls := "SquaringClockModel", name := "work", desc := "(I)I" } : Jvm.MethodName) prog_7_method_24_code (3 : Nat) (Option.some Jvm.ClassFile.FieldType.int)) ∈ qB := qB_i 697 (by decide +kernel) (by decide +kernel)
theorem tw_698 : (Jvm.Cond.methodLink "SquaringClockModel" (117 : Nat) ({ cls := "SquaringClockModel", name := "isMany", desc := "(I)Z" } : Jvm.MethodName)) ∈ qB := qB_i 698 (by decide +kernel) (by decide +kernel)
theorem tw_699 : (Jvm.Cond.static ({ cls := "SquaringClockModel", name := "isMany", desc := "(I)Z" } : Jvm.MethodName)) ∈ qB := qB_i 699 (by decide +kernel) (by decide +kernel)
theorem tw_700 : (Jvm.Cond.code ({ cls := "SquaringClockModel", name := "isMany", desc := "(I)Z" } : Jvm.MethodName) prog_7_method_23_code (1 : Nat) (Option.some Jvm.ClassFile.FieldType.boolean)) ∈ qB := qB_i 700 (by decide +kernel) (by decide +kernel)
theorem tw_701 : (Jvm.Cond.methodLink "SquaringClockModel" (120 : Nat) ({ cls := "SquaringClockModel", name := "primeOf", desc := "(III)I" } : Jvm.MethodName)) ∈ qB := qB_i 701 (by decide +kernel) (by decide +kernel)
theorem tw_703 : (Jvm.Cond.instanceMethod ({ cls := "SquaringClockModel", name := "primeOf", desc := "(III)I" } : Jvm.MethodName)) ∈ qB := qB_i 703 (by decide +kernel) (by decide +kernel)
theorem tw_704 : (Jvm.Cond.code ({ cls := "SquaringClockModel", name := "primeOf", desc := "(III)I" } : Jvm.MethodName) prog_7_method_19_code (5 : Nat) (Option.some Jvm.ClassFile.FieldType.int)) ∈ qB := qB_i 704 (by decide +kernel) (by decide +kernel)
theorem tw_705 : (Jvm.Cond.methodLink "SquaringClockModel" (82 : Nat) ({ cls := "SquaringClockModel", name := "isPrime", desc := "(I)Z" } : Jvm.MethodName)) ∈ qB := qB_i 705 (by decide +kernel) (by decide +kernel)
theorem tw_706 : (Jvm.Cond.static ({ cls := "SquaringClockModel", name := "isPrime", desc := "(I)Z" } : Jvm.MethodName)) ∈ qB := qB_i 706 (by decide +kernel) (by decide +kernel)
theorem tw_707 : (Jvm.Cond.code ({ cls := "SquaringClockModel", name := "isPrime", desc := "(I)Z" } : Jvm.MethodName) prog_7_method_18_code (2 : Nat) (Option.some Jvm.ClassFile.FieldType.boolean)) ∈ qB := qB_i 707 (by decide +kernel) (by decide +kernel)
theorem tw_708 : (Jvm.Cond.methodLink "SquaringClockLaw" (96 : Nat) ({ cls := "SquaringClockModel", name := "prove", desc := "(I)I" } : Jvm.MethodName)) ∈ qB := qB_i 708 (by decide +kernel) (by decide +kernel)
theorem tw_709 : (Jvm.Cond.instanceMethod ({ cls := "SquaringClockModel", name := "prove", desc := "(I)I" } : Jvm.MethodName)) ∈ qB := qB_i 709 (by decide +kernel) (by decide +kernel)
theorem tw_710 : (Jvm.Cond.selects "SquaringClockModel" ({ cls := "SquaringClockModel", name := "prove", desc := "(I)I" } : Jvm.MethodName) ({ cls := "SquaringClockModel", name := "prove", desc := "(I)I" } : Jvm.MethodName)) ∈ qB := qB_i 710 (by decide +kernel) (by decide +kernel)
theorem tw_711 : (Jvm.Cond.code ({ cls := "SquaringClockModel", name := "prove", desc := "(I)I" } : Jvm.MethodName) prog_7_method_25_code (3 : Nat) (Option.some Jvm.ClassFile.FieldType.int)) ∈ qB := qB_i 711 (by decide +kernel) (by decide +kernel)
theorem tw_712 : (Jvm.Cond.methodLink "SquaringClockLaw" (100 : Nat) ({ cls := "SquaringClockModel", name := "publish", desc := "()I" } : Jvm.MethodName)) ∈ qB := qB_i 712 (by decide +kernel) (by decide +kernel)
theorem tw_713 : (Jvm.Cond.instanceMethod ({ cls := "SquaringClockModel", name := "publish", desc := "()I" } : Jvm.MethodName)) ∈ qB := qB_i 713 (by decide +kernel) (by decide +kernel)
theorem tw_714 : (Jvm.Cond.selects "SquaringClockModel" ({ cls := "SquaringClockModel", name := "publish", desc := "()I" } : Jvm.MethodName) ({ cls := "SquaringClockModel", name := "publish", desc := "()I" } : Jvm.MethodName)) ∈ qB := qB_i 714 (by decide +kernel) (by decide +kernel)
theorem tw_715 : (Jvm.Cond.code ({ cls := "SquaringClockModel", name := "publish", desc := "()I" } : Jvm.MethodName) prog_7_method_26_code (2 : Nat) (Option.some Jvm.ClassFile.FieldType.int)) ∈ qB := qB_i 715 (by decide +kernel) (by decide +kernel)
theorem tw_716 : (Jvm.Cond.methodLink "SquaringClockLaw" (105 : Nat) ({ cls := "SquaringClockModel", name := "drop", desc := "()Z" } : Jvm.MethodName)) ∈ qB := qB_i 716 (by decide +kernel) (by decide +kernel)
theorem tw_717 : (Jvm.Cond.instanceMethod ({ cls := "SquaringClockModel", name := "drop", desc := "()Z" } : Jvm.MethodName)) ∈ qB := qB_i 717 (by decide +kernel) (by decide +kernel)
theorem tw_718 : (Jvm.Cond.selects "SquaringClockModel" ({ cls := "SquaringClockModel", name := "drop", desc := "()Z" } : Jvm.MethodName) ({ cls := "SquaringClockModel", name := "drop", desc := "()Z" } : Jvm.MethodName)) ∈ qB := qB_i 718 (by decide +kernel) (by decide +kernel)
theorem tw_719 : (Jvm.Cond.code ({ cls := "SquaringClockModel", name := "drop", desc := "()Z" } : Jvm.MethodName) prog_7_method_27_code (2 : Nat) (Option.some Jvm.ClassFile.FieldType.boolean)) ∈ qB := qB_i 719 (by decide +kernel) (by decide +kernel)
theorem tw_720 : (Jvm.Cond.methodLink "SquaringClockLaw" (109 : Nat) ({ cls := "SquaringClockModel", name := "rounds", desc := "()I" } : Jvm.MethodName)) ∈ qB := qB_i 720 (by decide +kernel) (by decide +kernel)
theorem tw_721 : (Jvm.Cond.instanceMethod ({ cls := "SquaringClockModel", name := "rounds", desc := "()I" } : Jvm.MethodName)) ∈ qB := qB_i 721 (by decide +kernel) (by decide +kernel)
theorem tw_722 : (Jvm.Cond.selects "SquaringClockModel" ({ cls := "SquaringClockModel", name := "rounds", desc := "()I" } : Jvm.MethodName) ({ cls := "SquaringClockModel", name := "rounds", desc := "()I" } : Jvm.MethodName)) ∈ qB := qB_i 722 (by decide +kernel) (by decide +kernel)
theorem tw_723 : (Jvm.Cond.code ({ cls := "SquaringClockModel", name := "rounds", desc := "()I" } : Jvm.MethodName) prog_7_method_28_code (1 : Nat) (Option.some Jvm.ClassFile.FieldType.int)) ∈ qB := qB_i 723 (by decide +kernel) (by decide +kernel)
theorem tw_724 : (Jvm.Cond.methodLink "SquaringClockLaw" (113 : Nat) ({ cls := "SquaringClockModel", name := "told", desc := "(II)I" } : Jvm.MethodName)) ∈ qB := qB_i 724 (by decide +kernel) (by decide +kernel)
theorem tw_725 : (Jvm.Cond.instanceMethod ({ cls := "SquaringClockModel", name := "told", desc := "(II)I" } : Jvm.MethodName)) ∈ qB := qB_i 725 (by decide +kernel) (by decide +kernel)
theorem tw_726 : (Jvm.Cond.selects "SquaringClockModel" ({ cls := "SquaringClockModel", name := "told", desc := "(II)I" } : Jvm.MethodName) ({ cls := "SquaringClockModel", name := "told", desc := "(II)I" } : Jvm.MethodName)) ∈ qB := qB_i 726 (by decide +kernel) (by decide +kernel)
theorem tw_727 : (Jvm.Cond.code ({ cls := "SquaringClockModel", name := "told", desc := "(II)I" } : Jvm.MethodName) prog_7_method_30_code (3 : Nat) (Option.some Jvm.ClassFile.FieldType.int)) ∈ qB := qB_i 727 (by decide +kernel) (by decide +kernel)
theorem tw_728 : (Jvm.Cond.methodLink "SquaringClockModel" (124 : Nat) ({ cls := "SquaringClockModel", name := "place", desc := "(I)I" } : Jvm.MethodName)) ∈ qB := qB_i 728 (by decide +kernel) (by decide +kernel)
theorem tw_730 : (Jvm.Cond.instanceMethod ({ cls := "SquaringClockModel", name := "place", desc := "(I)I" } : Jvm.MethodName)) ∈ qB := qB_i 730 (by decide +kernel) (by decide +kernel)
theorem tw_731 : (Jvm.Cond.code ({ cls := "SquaringClockModel", name := "place", desc := "(I)I" } : Jvm.MethodName) prog_7_method_29_code (2 : Nat) (Option.some Jvm.ClassFile.FieldType.int)) ∈ qB := qB_i 731 (by decide +kernel) (by decide +kernel)
theorem tw_732 : (Jvm.Cond.methodLink "SquaringClockLaw" (117 : Nat) ({ cls := "SquaringClockModel", name := "form", desc := "(III)I" } : Jvm.MethodName)) ∈ qB := qB_i 732 (by decide +kernel) (by decide +kernel)
theorem tw_733 : (Jvm.Cond.instanceMethod ({ cls := "SquaringClockModel", name := "form", desc := "(III)I" } : Jvm.MethodName)) ∈ qB := qB_i 733 (by decide +kernel) (by decide +kernel)
theorem tw_734 : (Jvm.Cond.selects "SquaringClockModel" ({ cls := "SquaringClockModel", name := "form", desc := "(III)I" } : Jvm.MethodName) ({ cls := "SquaringClockModel", name := "form", desc := "(III)I" } : Jvm.MethodName)) ∈ qB := qB_i 734 (by decide +kernel) (by decide +kernel)
theorem tw_735 : (Jvm.Cond.code ({ cls := "SquaringClockModel", name := "form", desc := "(III)I" } : Jvm.MethodName) prog_7_method_32_code (4 : Nat) (Option.some Jvm.ClassFile.FieldType.int)) ∈ qB := qB_i 735 (by decide +kernel) (by decide +kernel)
theorem tw_736 : (Jvm.Cond.methodLink "SquaringClockModel" (128 : Nat) ({ cls := "SquaringClockModel", name := "partOf", desc := "(II)J" } : Jvm.MethodName)) ∈ qB := qB_i 736 (by decide +kernel) (by decide +kernel)
theorem tw_738 : (Jvm.Cond.instanceMethod ({ cls := "SquaringClockModel", name := "partOf", desc := "(II)J" } : Jvm.MethodName)) ∈ qB := qB_i 738 (by decide +kernel) (by decide +kernel)
theorem tw_739 : (Jvm.Cond.code ({ cls := "SquaringClockModel", name := "partOf", desc := "(II)J" } : Jvm.MethodName) prog_7_method_31_code (3 : Nat) (Option.some Jvm.ClassFile.FieldType.long)) ∈ qB := qB_i 739 (by decide +kernel) (by decide +kernel)
theorem tw_740 : (Jvm.Cond.methodLink "SquaringClockLaw" (120 : Nat) ({ cls := "SquaringClockModel", name := "verify", desc := "(I)Z" } : Jvm.MethodName)) ∈ qB := qB_i 740 (by decide +kernel) (by decide +kernel)
theorem tw_741 : (Jvm.Cond.instanceMethod ({ cls := "SquaringClockModel", name := "verify", desc := "(I)Z" } : Jvm.MethodName)) ∈ qB := qB_i 741 (by decide +kernel) (by decide +kernel)
theorem tw_742 : (Jvm.Cond.selects "SquaringClockModel" ({ cls := "SquaringClockModel", name := "verify", desc := "(I)Z" } : Jvm.MethodName) ({ cls := "SquaringClockModel", name := "verify", desc := "(I)Z" } : Jvm.MethodName)) ∈ qB := qB_i 742 (by decide +kernel) (by decide +kernel)
theorem tw_743 : (Jvm.Cond.code ({ cls := "SquaringClockModel", name := "verify", desc := "(I)Z" } : Jvm.MethodName) prog_7_method_35_code (3 : Nat) (Option.some Jvm.ClassFile.FieldType.boolean)) ∈ qB := qB_i 743 (by decide +kernel) (by decide +kernel)
theorem tw_744 : (Jvm.Cond.methodLink "SquaringClockModel" (135 : Nat) ({ cls := "SquaringClockModel", name := "same", desc := "(II)Z" } : Jvm.MethodName)) ∈ qB := qB_i 744 (by decide +kernel) (by decide +kernel)
theorem tw_746 : (Jvm.Cond.instanceMethod ({ cls := "SquaringClockModel", name := "same", desc := "(II)Z" } : Jvm.MethodName)) ∈ qB := qB_i 746 (by decide +kernel) (by decide +kernel)
theorem tw_747 : (Jvm.Cond.code ({ cls := "SquaringClockModel", name := "same", desc := "(II)Z" } : Jvm.MethodName) prog_7_method_9_code (3 : Nat) (Option.some Jvm.ClassFile.FieldType.boolean)) ∈ qB := qB_i 747 (by decide +kernel) (by decide +kernel)
theorem tw_748 : (Jvm.Cond.methodLink "SquaringClockModel" (139 : Nat) ({ cls := "SquaringClockModel", name := "holds", desc := "(IIIII)Z" } : Jvm.MethodName)) ∈ qB := qB_i 748 (by decide +kernel) (by decide +kernel)
theorem tw_750 : (Jvm.Cond.instanceMethod ({ cls := "SquaringClockModel", name := "holds", desc := "(IIIII)Z" } : Jvm.MethodName)) ∈ qB := qB_i 750 (by decide +kernel) (by decide +kernel)
theorem tw_751 : (Jvm.Cond.code ({ cls := "SquaringClockModel", name := "holds", desc := "(IIIII)Z" } : Jvm.MethodName) prog_7_method_34_code (6 : Nat) (Option.some Jvm.ClassFile.FieldType.boolean)) ∈ qB := qB_i 751 (by decide +kernel) (by decide +kernel)
theorem tw_752 : (Jvm.Cond.methodLink "SquaringClockModel" (132 : Nat) ({ cls := "SquaringClockModel", name := "restOf", desc := "(II)I" } : Jvm.MethodName)) ∈ qB := qB_i 752 (by decide +kernel) (by decide +kernel)
theorem tw_753 : (Jvm.Cond.static ({ cls := "SquaringClockModel", name := "restOf", desc := "(II)I" } : Jvm.MethodName)) ∈ qB := qB_i 753 (by decide +kernel) (by decide +kernel)
theorem tw_754 : (Jvm.Cond.code ({ cls := "SquaringClockModel", name := "restOf", desc := "(II)I" } : Jvm.MethodName) prog_7_method_33_code (4 : Nat) (Option.some Jvm.ClassFile.FieldType.int)) ∈ qB := qB_i 754 (by decide +kernel) (by decide +kernel)
theorem tw_755 : (Jvm.Cond.methodLink "SquaringClockLaw" (124 : Nat) ({ cls := "SquaringClockModel", name := "put", desc := "(III)V" } : Jvm.MethodName)) ∈ qB := qB_i 755 (by decide +kernel) (by decide +kernel)
theorem tw_756 : (Jvm.Cond.instanceMethod ({ cls := "SquaringClockModel", name := "put", desc := "(III)V" } : Jvm.MethodName)) ∈ qB := qB_i 756 (by decide +kernel) (by decide +kernel)
theorem tw_757 : (Jvm.Cond.selects "SquaringClockModel" ({ cls := "SquaringClockModel", name := "put", desc := "(III)V" } : Jvm.MethodName) ({ cls := "SquaringClockModel", name := "put", desc := "(III)V" } : Jvm.MethodName)) ∈ qB := qB_i 757 (by decide +kernel) (by decide +kernel)
theorem tw_758 : (Jvm.Cond.code ({ cls := "SquaringClockModel", name := "put", desc := "(III)V" } : Jvm.MethodName) prog_7_method_37_code (8 : Nat) (Option.none : Option Jvm.ClassFile.FieldType)) ∈ qB := qB_i 758 (by decide +kernel) (by decide +kernel)
theorem tw_759 : (Jvm.Cond.constant "SquaringClockModel" (143 : Nat) (100000 : Int32)) ∈ qB := qB_i 759 (by decide +kernel) (by decide +kernel)
theorem tw_760 : (Jvm.Cond.constant "SquaringClockModel" (144 : Nat) (-100000 : Int32)) ∈ qB := qB_i 760 (by decide +kernel) (by decide +kernel)
theorem tw_761 : (Jvm.Cond.methodLink "SquaringClockModel" (145 : Nat) ({ cls := "SquaringClockModel", name := "isPlace", desc := "(I)Z" } : Jvm.MethodName)) ∈ qB := qB_i 761 (by decide +kernel) (by decide +kernel)
theorem tw_762 : (Jvm.Cond.static ({ cls := "SquaringClockModel", name := "isPlace", desc := "(I)Z" } : Jvm.MethodName)) ∈ qB := qB_i 762 (by decide +kernel) (by decide +kernel)
theorem tw_763 : (Jvm.Cond.code ({ cls := "SquaringClockModel", name := "isPlace", desc := "(I)Z" } : Jvm.MethodName) prog_7_method_36_code (1 : Nat) (Option.some Jvm.ClassFile.FieldType.boolean)) ∈ qB := qB_i 763 (by decide +kernel) (by decide +kernel)
theorem tw_764 : (Jvm.Cond.methodLink "SquaringClockLaw" (127 : Nat) ({ cls := "SquaringClockModel", name := "buffer", desc := "(II)J" } : Jvm.MethodName)) ∈ qB := qB_i 764 (by decide +kernel) (by decide +kernel)
theorem tw_765 : (Jvm.Cond.instanceMethod ({ cls := "SquaringClockModel", name := "buffer", desc := "(II)J" } : Jvm.MethodName)) ∈ qB := qB_i 765 (by decide +kernel) (by decide +kernel)
theorem tw_766 : (Jvm.Cond.selects "SquaringClockModel" ({ cls := "SquaringClockModel", name := "buffer", desc := "(II)J" } : Jvm.MethodName) ({ cls := "SquaringClockModel", name := "buffer", desc := "(II)J" } : Jvm.MethodName)) ∈ qB := qB_i 766 (by decide +kernel) (by decide +kernel)
theorem tw_767 : (Jvm.Cond.code ({ cls := "SquaringClockModel", name := "buffer", desc := "(II)J" } : Jvm.MethodName) prog_7_method_38_code (3 : Nat) (Option.some Jvm.ClassFile.FieldType.long)) ∈ qB := qB_i 767 (by decide +kernel) (by decide +kernel)
theorem tw_768 : (Jvm.Cond.methodLink "SquaringClockLaw" (131 : Nat) ({ cls := "SquaringClockModel", name := "reduce", desc := "(II)V" } : Jvm.MethodName)) ∈ qB := qB_i 768 (by decide +kernel) (by decide +kernel)
theorem tw_769 : (Jvm.Cond.instanceMethod ({ cls := "SquaringClockModel", name := "reduce", desc := "(II)V" } : Jvm.MethodName)) ∈ qB := qB_i 769 (by decide +kernel) (by decide +kernel)
theorem tw_770 : (Jvm.Cond.selects "SquaringClockModel" ({ cls := "SquaringClockModel", name := "reduce", desc := "(II)V" } : Jvm.MethodName) ({ cls := "SquaringClockModel", name := "reduce", desc := "(II)V" } : Jvm.MethodName)) ∈ qB := qB_i 770 (by decide +kernel) (by decide +kernel)
theorem tw_771 : (Jvm.Cond.code ({ cls := "SquaringClockModel", name := "reduce", desc := "(II)V" } : Jvm.MethodName) prog_7_method_39_code (3 : Nat) (Option.none : Option Jvm.ClassFile.FieldType)) ∈ qB := qB_i 771 (by decide +kernel) (by decide +kernel)
theorem tw_772 : (Jvm.Cond.methodLink "SquaringClockLaw" (134 : Nat) ({ cls := "SquaringClockModel", name := "multiply", desc := "(III)V" } : Jvm.MethodName)) ∈ qB := qB_i 772 (by decide +kernel) (by decide +kernel)
theorem tw_773 : (Jvm.Cond.instanceMethod ({ cls := "SquaringClockModel", name := "multiply", desc := "(III)V" } : Jvm.MethodName)) ∈ qB := qB_i 773 (by decide +kernel) (by decide +kernel)
theorem tw_774 : (Jvm.Cond.selects "SquaringClockModel" ({ cls := "SquaringClockModel", name := "multiply", desc := "(III)V" } : Jvm.MethodName) ({ cls := "SquaringClockModel", name := "multiply", desc := "(III)V" } : Jvm.MethodName)) ∈ qB := qB_i 774 (by decide +kernel) (by decide +kernel)
theorem tw_775 : (Jvm.Cond.code ({ cls := "SquaringClockModel", name := "multiply", desc := "(III)V" } : Jvm.MethodName) prog_7_method_40_code (4 : Nat) (Option.none : Option Jvm.ClassFile.FieldType)) ∈ qB := qB_i 775 (by decide +kernel) (by decide +kernel)
theorem tw_776 : (Jvm.Cond.methodLink "SquaringClockLaw" (137 : Nat) ({ cls := "SquaringClockModel", name := "raise", desc := "(III)V" } : Jvm.MethodName)) ∈ qB := qB_i 776 (by decide +kernel) (by decide +kernel)
theorem tw_777 : (Jvm.Cond.instanceMethod ({ cls := "SquaringClockModel", name := "raise", desc := "(III)V" } : Jvm.MethodName)) ∈ qB := qB_i 777 (by decide +kernel) (by decide +kernel)
theorem tw_778 : (Jvm.Cond.selects "SquaringClockModel" ({ cls := "SquaringClockModel", name := "raise", desc := "(III)V" } : Jvm.MethodName) ({ cls := "SquaringClockModel", name := "raise", desc := "(III)V" } : Jvm.MethodName)) ∈ qB := qB_i 778 (by decide +kernel) (by decide +kernel)
theorem tw_779 : (Jvm.Cond.code ({ cls := "SquaringClockModel", name := "raise", desc := "(III)V" } : Jvm.MethodName) prog_7_method_41_code (4 : Nat) (Option.none : Option Jvm.ClassFile.FieldType)) ∈ qB := qB_i 779 (by decide +kernel) (by decide +kernel)
theorem tw_780 : (Jvm.Cond.methodLink "SquaringClockLaw" (140 : Nat) ({ cls := "SquaringClockModel", name := "test", desc := "(I)I" } : Jvm.MethodName)) ∈ qB := qB_i 780 (by decide +kernel) (by decide +kernel)
theorem tw_781 : (Jvm.Cond.instanceMethod ({ cls := "SquaringClockModel", name := "test", desc := "(I)I" } : Jvm.MethodName)) ∈ qB := qB_i 781 (by decide +kernel) (by decide +kernel)
theorem tw_782 : (Jvm.Cond.selects "SquaringClockModel" ({ cls := "SquaringClockModel", name := "test", desc := "(I)I" } : Jvm.MethodName) ({ cls := "SquaringClockModel", name := "test", desc := "(I)I" } : Jvm.MethodName)) ∈ qB := qB_i 782 (by decide +kernel) (by decide +kernel)
theorem tw_783 : (Jvm.Cond.code ({ cls := "SquaringClockModel", name := "test", desc := "(I)I" } : Jvm.MethodName) prog_7_method_42_code (3 : Nat) (Option.some Jvm.ClassFile.FieldType.int)) ∈ qB := qB_i 783 (by decide +kernel) (by decide +kernel)
theorem tw_784 : (Jvm.Cond.methodLink "SquaringClockLaw" (143 : Nat) ({ cls := "SquaringClockModel", name := "order", desc := "(I)I" } : Jvm.MethodName)) ∈ qB := qB_i 784 (by decide +kernel) (by decide +kernel)
theorem tw_785 : (Jvm.Cond.instanceMethod ({ cls := "SquaringClockModel", name := "order", desc := "(I)I" } : Jvm.MethodName)) ∈ qB := qB_i 785 (by decide +kernel) (by decide +kernel)
theorem tw_786 : (Jvm.Cond.selects "SquaringClockModel" ({ cls := "SquaringClockModel", name := "order", desc := "(I)I" } : Jvm.MethodName) ({ cls := "SquaringClockModel", name := "order", desc := "(I)I" } : Jvm.MethodName)) ∈ qB := qB_i 786 (by decide +kernel) (by decide +kernel)
theorem tw_787 : (Jvm.Cond.code ({ cls := "SquaringClockModel", name := "order", desc := "(I)I" } : Jvm.MethodName) prog_7_method_43_code (3 : Nat) (Option.some Jvm.ClassFile.FieldType.int)) ∈ qB := qB_i 787 (by decide +kernel) (by decide +kernel)
theorem tw_788 : (Jvm.Cond.methodLink "SquaringClockLaw" (146 : Nat) ({ cls := "SquaringClockModel", name := "classes", desc := "()I" } : Jvm.MethodName)) ∈ qB := qB_i 788 (by decide +kernel) (by decide +kernel)
theorem tw_789 : (Jvm.Cond.instanceMethod ({ cls := "SquaringClockModel", name := "classes", desc := "()I" } : Jvm.MethodName)) ∈ qB := qB_i 789 (by decide +kernel) (by decide +kernel)
theorem tw_790 : (Jvm.Cond.selects "SquaringClockModel" ({ cls := "SquaringClockModel", name := "classes", desc := "()I" } : Jvm.MethodName) ({ cls := "SquaringClockModel", name := "classes", desc := "()I" } : Jvm.MethodName)) ∈ qB := qB_i 790 (by decide +kernel) (by decide +kernel)
theorem tw_791 : (Jvm.Cond.code ({ cls := "SquaringClockModel", name := "classes", desc := "()I" } : Jvm.MethodName) prog_7_method_44_code (8 : Nat) (Option.some Jvm.ClassFile.FieldType.int)) ∈ qB := qB_i 791 (by decide +kernel) (by decide +kernel)
theorem tw_792 : (Jvm.Cond.constantLong "SquaringClockModel" (148 : Nat) (50000 : Int64)) ∈ qB := qB_i 792 (by decide +kernel) (by decide +kernel)
theorem tw_793 : (Jvm.Cond.constantLong "SquaringClockModel" (150 : Nat) (3 : Int64)) ∈ qB := qB_i 793 (by decide +kernel) (by decide +kernel)
theorem tw_794 : (Jvm.Cond.sameMethod "java/lang/Throwable" "java/lang/Throwable" "fillInStackTrace" "(I)Ljava/lang/Throwable;") ∈ qB := qB_i 794 (by decide +kernel) (by decide +kernel)
end
section
/-! the memory: addresses, kinds, lengths, ints, longs, references -/
abbrev qM : Type := List Nat × (Nat → Nat) × (Nat → Nat) × (Nat → Nat → Int) × (Nat → Nat → Int) × (Nat → Nat → Option Nat)
def mP (M : qM) : List Nat := M.1
def mK (M : qM) : Nat → Nat := M.2.1
def mN (M : qM) : Nat → Nat := M.2.2.1
def mI (M : qM) : Nat → Nat → Int := M.2.2.2.1
def mL (M : qM) : Nat → Nat → Int := M.2.2.2.2.1
def mR (M : qM) : Nat → Nat → Option Nat := M.2.2.2.2.2
def up2 {α : Type} (f : Nat → Nat → α) (a k : Nat) (v : α) : Nat → Nat → α := fun b j => if b = a ∧ j = k then v else f b j
theorem up2_s {α : Type} (f : Nat → Nat → α) (a k : Nat) (v : α) : up2 f a k v a k = v := by simp [up2]
theorem up2_n {α : Type} (f : Nat → Nat → α) {a k b j : Nat} (v : α) (h : ¬ (b = a ∧ j = k)) : up2 f a k v b j = f b j := by simp [up2, h]
theorem up2_a {α : Type} (f : Nat → Nat → α) {a k b j : Nat} (v : α) (h : b ≠ a) : up2 f a k v b j = f b j := by simp [up2, h]
theorem up2_k {α : Type} (f : Nat → Nat → α) {a k b j : Nat} (v : α) (h : j ≠ k) : up2 f a k v b j = f b j := by simp [up2, h]
def sI (M : qM) (a k : Nat) (z : Int) : qM := (mP M, mK M, mN M, up2 (mI M) a k z, mL M, mR M)
def sL (M : qM) (a k : Nat) (z : Int) : qM := (mP M, mK M, mN M, mI M, up2 (mL M) a k z, mR M)
def sR (M : qM) (a k : Nat) (z : Option Nat) : qM := (mP M, mK M, mN M, mI M, mL M, up2 (mR M) a k z)
/-- a new cell: kind, length; zeros in it -/
def sN (M : qM) (a ki n : Nat) : qM := (mP M ++ [a], va_up (mK M) a ki, va_up (mN M) a n, va_up (mI M) a (fun _ => 0), va_up (mL M) a (fun _ => 0), va_up (mR M) a (fun _ => none))
/-- the fields of an object, by its class -/
def qF (ci : Nat) (M : qM) (a : Nat) : List Value := match ci with
  | 0 => [.long (qL (mL M a 0)), .long (qL (mL M a 1)), .long (qL (mL M a 2))]
  | 1 => [.long (qL (mL M a 0)), .long (qL (mL M a 1)), .long (qL (mL M a 2))]
  | 2 => [.int (qI (mI M a 0)), va_rf (mR M a 1), va_rf (mR M a 2), va_rf (mR M a 3), va_rf (mR M a 4), va_rf (mR M a 5), va_rf (mR M a 6), va_rf (mR M a 7), va_rf (mR M a 8), va_rf (mR M a 9)]
  | 3 => [.int (qI (mI M a 0)), .int (qI (mI M a 1)), .int (qI (mI M a 2)), .int (qI (mI M a 3)), .int (qI (mI M a 4)), .int (qI (mI M a 5)), va_rf (mR M a 6), va_rf (mR M a 7), va_rf (mR M a 8)]
  | 4 => [va_rf (mR M a 0), va_rf (mR M a 1), va_rf (mR M a 2), va_rf (mR M a 3), .int (qI (mI M a 4)), .int (qI (mI M a 5)), va_rf (mR M a 6)]
  | _ => [.int (qI (mI M a 0)), .long (qL (mL M a 1)), va_rf (mR M a 2), va_rf (mR M a 3), va_rf (mR M a 4), va_rf (mR M a 5), .int (qI (mI M a 6)), .int (qI (mI M a 7)), va_rf (mR M a 8), .int (qI (mI M a 9)), .int (qI (mI M a 10)), .int (qI (mI M a 11))]
def qC (cy : Nat → ClassId) (M : qM) (a : Nat) : va_E :=
  if mK M a < 6 then .inr (mK M a, qF (mK M a) M a)
  else if mK M a = 6 then .inl (cy 0, mN M a, .inl (fun j => qI (mI M a j)))
  else if mK M a = 7 then .inl (cy 1, mN M a, .inr (.inl (fun j => qL (mL M a j))))
  else if mK M a = 8 then .inl (cy 2, mN M a, .inl (fun j => qI (mI M a j)))
  else if mK M a = 9 then .inl (cy 3, mN M a, .inr (.inr (.inr (.inr (fun j => mR M a j)))))
  else .inl (cy 4, mN M a, .inr (.inr (.inr (.inr (fun j => mR M a j)))))
def qW (cy : Nat → ClassId) (M : qM) : va_W := va_pl (mP M) (qC cy M)
def qT (cy : Nat → ClassId) : List (ClassId × FieldType) := [(cy 0, .int), (cy 1, .long), (cy 2, .boolean), (cy 3, .object RX1), (cy 4, .object RX3)]
theorem qC_o {cy : Nat → ClassId} {M : qM} {a ci : Nat} (h : mK M a = ci) (hc : ci < 6) : qC cy M a = .inr (ci, qF ci M a) := by
  subst h; unfold qC; rw [if_pos hc]
theorem qC_I {cy : Nat → ClassId} {M : qM} {a : Nat} (h : mK M a = 6) : qC cy M a = .inl (cy 0, mN M a, .inl (fun j => qI (mI M a j))) := by simp [qC, h]
theorem qC_J {cy : Nat → ClassId} {M : qM} {a : Nat} (h : mK M a = 7) : qC cy M a = .inl (cy 1, mN M a, .inr (.inl (fun j => qL (mL M a j)))) := by simp [qC, h]
theorem qC_Z {cy : Nat → ClassId} {M : qM} {a : Nat} (h : mK M a = 8) : qC cy M a = .inl (cy 2, mN M a, .inl (fun j => qI (mI M a j))) := by simp [qC, h]
theorem qC_F {cy : Nat → ClassId} {M : qM} {a : Nat} (h : mK M a = 9) : qC cy M a = .inl (cy 3, mN M a, .inr (.inr (.inr (.inr (fun j => mR M a j))))) := by simp [qC, h]
theorem qC_R {cy : Nat → ClassId} {M : qM} {a : Nat} (h : mK M a = 10) : qC cy M a = .inl (cy 4, mN M a, .inr (.inr (.inr (.inr (fun j => mR M a j))))) := by simp [qC, h]
theorem qF_loc {M M' : qM} {b : Nat} (ci : Nat) (hI : mI M' b = mI M b) (hL : mL M' b = mL M b) (hR : mR M' b = mR M b) : qF ci M' b = qF ci M b := by
  unfold qF; split <;> simp only [hI, hL, hR]
theorem qC_loc {cy : Nat → ClassId} {M M' : qM} {b : Nat} (hK : mK M' b = mK M b) (hN : mN M' b = mN M b) (hI : mI M' b = mI M b) (hL : mL M' b = mL M b) (hR : mR M' b = mR M b) : qC cy M' b = qC cy M b := by
  unfold qC; rw [hK, hN, hI, hL, hR, qF_loc _ hI hL hR]
theorem up2_row {α : Type} (f : Nat → Nat → α) {a k b : Nat} (v : α) (h : b ≠ a) : up2 f a k v b = f b := by funext j; exact up2_a f v h
theorem qC_sI {cy : Nat → ClassId} {M : qM} {a b k : Nat} {z : Int} (h : b ≠ a) : qC cy (sI M a k z) b = qC cy M b := qC_loc rfl rfl (up2_row _ _ h) rfl rfl
theorem qC_sL {cy : Nat → ClassId} {M : qM} {a b k : Nat} {z : Int} (h : b ≠ a) : qC cy (sL M a k z) b = qC cy M b := qC_loc rfl rfl rfl (up2_row _ _ h) rfl
theorem qC_sR {cy : Nat → ClassId} {M : qM} {a b k : Nat} {z : Option Nat} (h : b ≠ a) : qC cy (sR M a k z) b = qC cy M b := qC_loc rfl rfl rfl rfl (up2_row _ _ h)
theorem qC_sN {cy : Nat → ClassId} {M : qM} {a b ki n : Nat} (h : b ≠ a) : qC cy (sN M a ki n) b = qC cy M b := qC_loc (by simp [sN, mK, va_up, h]) (by simp [sN, mN, va_up, h]) (by simp [sN, mI, va_up, h]) (by simp [sN, mL, va_up, h]) (by simp [sN, mR, va_up, h])
theorem qW_get {cy : Nat → ClassId} {M : qM} {a : Nat} (h : a ∈ mP M) : ∃ k : Nat, (qW cy M)[k]? = some (a, qC cy M a) := by
  obtain ⟨k, hk⟩ := va_pl_get (X := []) (f := qC cy M) h
  exact ⟨k, hk⟩
theorem qW_set {cy : Nat → ClassId} {A : Nat → Prop} {M M' : qM} {a k : Nat} (hD : va_D A (qW cy M)) (h : a ∈ mP M) (hk : (qW cy M)[k]? = some (a, qC cy M a)) (hp : mP M' = mP M) (ho : ∀ b, b ≠ a → qC cy M' b = qC cy M b) : (qW cy M).set k (a, qC cy M' a) = qW cy M' := by
  have h1 := va_pl_set (X := []) (e := qC cy M' a) (A := A) (L := mP M) (f := qC cy M) hD h hk
  refine Eq.trans h1 ?_
  show [] ++ va_pl (mP M) _ = va_pl (mP M') _
  rw [hp, List.nil_append]
  refine va_pl_congr (fun b => ?_)
  by_cases hb : b = a
  · subst hb; simp [va_up]
  · simp only [va_up, if_neg hb]; exact (ho b hb).symm
theorem qD_of {A : Nat → Prop} {L : List Nat} {f g : Nat → va_E} (h : va_D A (va_pl L f)) : va_D A (va_pl L g) := by
  have e : ∀ (k : Nat) (q : Nat × va_E), (va_pl L g)[k]? = some q → ∃ q', (va_pl L f)[k]? = some q' ∧ q'.1 = q.1 := by
    intro k q hq
    simp only [va_pl, List.getElem?_map] at hq ⊢
    cases hL : L[k]? with
    | none => rw [hL] at hq; cases hq
    | some a => rw [hL] at hq; cases hq; exact ⟨_, rfl, rfl⟩
  refine ⟨fun i j p q hp hq hpq => ?_, fun k q hq => ?_⟩
  · obtain ⟨p', h1, h2⟩ := e i p hp
    obtain ⟨q', h3, h4⟩ := e j q hq
    exact h.1 i j p' q' h1 h3 (by rw [h2, h4, hpq])
  · obtain ⟨q', h1, h2⟩ := e k q hq
    rw [← h2]; exact h.2 k q' h1
theorem qD_in {A : Nat → Prop} {cy : Nat → ClassId} {M : qM} {a : Nat} (h : va_D A (qW cy M)) (ha : a ∈ mP M) : A a := by
  obtain ⟨k, hk⟩ := qW_get (cy := cy) ha
  exact h.2 k _ hk
theorem qP_lt {D : va_G} {cl : List vw_C} {cy : Nat → ClassId} {M : qM} {H : Heap} {a : Nat} (hP : va_P D cl (qW cy M) H) (ha : a ∈ mP M) : a < H.size := by
  obtain ⟨k, hk⟩ := qW_get (cy := cy) ha
  exact (hP k _ hk).lt
/-- which cells a method may change: the pool's, and new ones -/
def qA (P : List Nat) (sz : Nat) : Nat → Prop := fun q => q ∈ P ∨ sz ≤ q
theorem qD_self {A : Nat → Prop} {cy : Nat → ClassId} {M : qM} {sz : Nat} (h : va_D A (qW cy M)) : va_D (qA (mP M) sz) (qW cy M) := by
  refine ⟨h.1, fun k q hq => Or.inl ?_⟩
  simp only [qW, va_pl, List.getElem?_map] at hq
  cases hL : (mP M)[k]? with
  | none => rw [hL] at hq; cases hq
  | some a => rw [hL] at hq; cases hq; exact List.mem_of_getElem? hL
theorem fs_0_0 (M : qM) (a : Nat) (z : Int) : (qF 0 M a).set 0 (.long (qL z)) = qF 0 (sL M a 0 z) a := by simp [qF, sL, up2, mI, mL, mR]
theorem fs_0_1 (M : qM) (a : Nat) (z : Int) : (qF 0 M a).set 1 (.long (qL z)) = qF 0 (sL M a 1 z) a := by simp [qF, sL, up2, mI, mL, mR]
theorem fs_0_2 (M : qM) (a : Nat) (z : Int) : (qF 0 M a).set 2 (.long (qL z)) = qF 0 (sL M a 2 z) a := by simp [qF, sL, up2, mI, mL, mR]
theorem fs_1_0 (M : qM) (a : Nat) (z : Int) : (qF 1 M a).set 0 (.long (qL z)) = qF 1 (sL M a 0 z) a := by simp [qF, sL, up2, mI, mL, mR]
theorem fs_1_1 (M : qM) (a : Nat) (z : Int) : (qF 1 M a).set 1 (.long (qL z)) = qF 1 (sL M a 1 z) a := by simp [qF, sL, up2, mI, mL, mR]
theorem fs_1_2 (M : qM) (a : Nat) (z : Int) : (qF 1 M a).set 2 (.long (qL z)) = qF 1 (sL M a 2 z) a := by simp [qF, sL, up2, mI, mL, mR]
theorem fs_2_0 (M : qM) (a : Nat) (z : Int) : (qF 2 M a).set 0 (.int (qI z)) = qF 2 (sI M a 0 z) a := by simp [qF, sI, up2, mI, mL, mR]
theorem fs_2_1 (M : qM) (a : Nat) (z : Option Nat) : (qF 2 M a).set 1 (va_rf z) = qF 2 (sR M a 1 z) a := by simp [qF, sR, up2, mI, mL, mR]
theorem fs_2_2 (M : qM) (a : Nat) (z : Option Nat) : (qF 2 M a).set 2 (va_rf z) = qF 2 (sR M a 2 z) a := by simp [qF, sR, up2, mI, mL, mR]
theorem fs_2_3 (M : qM) (a : Nat) (z : Option Nat) : (qF 2 M a).set 3 (va_rf z) = qF 2 (sR M a 3 z) a := by simp [qF, sR, up2, mI, mL, mR]
theorem fs_2_4 (M : qM) (a : Nat) (z : Option Nat) : (qF 2 M a).set 4 (va_rf z) = qF 2 (sR M a 4 z) a := by simp [qF, sR, up2, mI, mL, mR]
theorem fs_2_5 (M : qM) (a : Nat) (z : Option Nat) : (qF 2 M a).set 5 (va_rf z) = qF 2 (sR M a 5 z) a := by simp [qF, sR, up2, mI, mL, mR]
theorem fs_2_6 (M : qM) (a : Nat) (z : Option Nat) : (qF 2 M a).set 6 (va_rf z) = qF 2 (sR M a 6 z) a := by simp [qF, sR, up2, mI, mL, mR]
theorem fs_2_7 (M : qM) (a : Nat) (z : Option Nat) : (qF 2 M a).set 7 (va_rf z) = qF 2 (sR M a 7 z) a := by simp [qF, sR, up2, mI, mL, mR]
theorem fs_2_8 (M : qM) (a : Nat) (z : Option Nat) : (qF 2 M a).set 8 (va_rf z) = qF 2 (sR M a 8 z) a := by simp [qF, sR, up2, mI, mL, mR]
theorem fs_2_9 (M : qM) (a : Nat) (z : Option Nat) : (qF 2 M a).set 9 (va_rf z) = qF 2 (sR M a 9 z) a := by simp [qF, sR, up2, mI, mL, mR]
theorem fs_3_0 (M : qM) (a : Nat) (z : Int) : (qF 3 M a).set 0 (.int (qI z)) = qF 3 (sI M a 0 z) a := by simp [qF, sI, up2, mI, mL, mR]
theorem fs_3_1 (M : qM) (a : Nat) (z : Int) : (qF 3 M a).set 1 (.int (qI z)) = qF 3 (sI M a 1 z) a := by simp [qF, sI, up2, mI, mL, mR]
theorem fs_3_2 (M : qM) (a : Nat) (z : Int) : (qF 3 M a).set 2 (.int (qI z)) = qF 3 (sI M a 2 z) a := by simp [qF, sI, up2, mI, mL, mR]
theorem fs_3_3 (M : qM) (a : Nat) (z : Int) : (qF 3 M a).set 3 (.int (qI z)) = qF 3 (sI M a 3 z) a := by simp [qF, sI, up2, mI, mL, mR]
theorem fs_3_4 (M : qM) (a : Nat) (z : Int) : (qF 3 M a).set 4 (.int (qI z)) = qF 3 (sI M a 4 z) a := by simp [qF, sI, up2, mI, mL, mR]
theorem fs_3_5 (M : qM) (a : Nat) (z : Int) : (qF 3 M a).set 5 (.int (qI z)) = qF 3 (sI M a 5 z) a := by simp [qF, sI, up2, mI, mL, mR]
theorem fs_3_6 (M : qM) (a : Nat) (z : Option Nat) : (qF 3 M a).set 6 (va_rf z) = qF 3 (sR M a 6 z) a := by simp [qF, sR, up2, mI, mL, mR]
theorem fs_3_7 (M : qM) (a : Nat) (z : Option Nat) : (qF 3 M a).set 7 (va_rf z) = qF 3 (sR M a 7 z) a := by simp [qF, sR, up2, mI, mL, mR]
theorem fs_3_8 (M : qM) (a : Nat) (z : Option Nat) : (qF 3 M a).set 8 (va_rf z) = qF 3 (sR M a 8 z) a := by simp [qF, sR, up2, mI, mL, mR]
theorem fs_4_0 (M : qM) (a : Nat) (z : Option Nat) : (qF 4 M a).set 0 (va_rf z) = qF 4 (sR M a 0 z) a := by simp [qF, sR, up2, mI, mL, mR]
theorem fs_4_1 (M : qM) (a : Nat) (z : Option Nat) : (qF 4 M a).set 1 (va_rf z) = qF 4 (sR M a 1 z) a := by simp [qF, sR, up2, mI, mL, mR]
theorem fs_4_2 (M : qM) (a : Nat) (z : Option Nat) : (qF 4 M a).set 2 (va_rf z) = qF 4 (sR M a 2 z) a := by simp [qF, sR, up2, mI, mL, mR]
theorem fs_4_3 (M : qM) (a : Nat) (z : Option Nat) : (qF 4 M a).set 3 (va_rf z) = qF 4 (sR M a 3 z) a := by simp [qF, sR, up2, mI, mL, mR]
theorem fs_4_4 (M : qM) (a : Nat) (z : Int) : (qF 4 M a).set 4 (.int (qI z)) = qF 4 (sI M a 4 z) a := by simp [qF, sI, up2, mI, mL, mR]
theorem fs_4_5 (M : qM) (a : Nat) (z : Int) : (qF 4 M a).set 5 (.int (qI z)) = qF 4 (sI M a 5 z) a := by simp [qF, sI, up2, mI, mL, mR]
theorem fs_4_6 (M : qM) (a : Nat) (z : Option Nat) : (qF 4 M a).set 6 (va_rf z) = qF 4 (sR M a 6 z) a := by simp [qF, sR, up2, mI, mL, mR]
theorem fs_5_0 (M : qM) (a : Nat) (z : Int) : (qF 5 M a).set 0 (.int (qI z)) = qF 5 (sI M a 0 z) a := by simp [qF, sI, up2, mI, mL, mR]
theorem fs_5_1 (M : qM) (a : Nat) (z : Int) : (qF 5 M a).set 1 (.long (qL z)) = qF 5 (sL M a 1 z) a := by simp [qF, sL, up2, mI, mL, mR]
theorem fs_5_2 (M : qM) (a : Nat) (z : Option Nat) : (qF 5 M a).set 2 (va_rf z) = qF 5 (sR M a 2 z) a := by simp [qF, sR, up2, mI, mL, mR]
theorem fs_5_3 (M : qM) (a : Nat) (z : Option Nat) : (qF 5 M a).set 3 (va_rf z) = qF 5 (sR M a 3 z) a := by simp [qF, sR, up2, mI, mL, mR]
theorem fs_5_4 (M : qM) (a : Nat) (z : Option Nat) : (qF 5 M a).set 4 (va_rf z) = qF 5 (sR M a 4 z) a := by simp [qF, sR, up2, mI, mL, mR]
theorem fs_5_5 (M : qM) (a : Nat) (z : Option Nat) : (qF 5 M a).set 5 (va_rf z) = qF 5 (sR M a 5 z) a := by simp [qF, sR, up2, mI, mL, mR]
theorem fs_5_6 (M : qM) (a : Nat) (z : Int) : (qF 5 M a).set 6 (.int (qI z)) = qF 5 (sI M a 6 z) a := by simp [qF, sI, up2, mI, mL, mR]
theorem fs_5_7 (M : qM) (a : Nat) (z : Int) : (qF 5 M a).set 7 (.int (qI z)) = qF 5 (sI M a 7 z) a := by simp [qF, sI, up2, mI, mL, mR]
theorem fs_5_8 (M : qM) (a : Nat) (z : Option Nat) : (qF 5 M a).set 8 (va_rf z) = qF 5 (sR M a 8 z) a := by simp [qF, sR, up2, mI, mL, mR]
theorem fs_5_9 (M : qM) (a : Nat) (z : Int) : (qF 5 M a).set 9 (.int (qI z)) = qF 5 (sI M a 9 z) a := by simp [qF, sI, up2, mI, mL, mR]
theorem fs_5_10 (M : qM) (a : Nat) (z : Int) : (qF 5 M a).set 10 (.int (qI z)) = qF 5 (sI M a 10 z) a := by simp [qF, sI, up2, mI, mL, mR]
theorem fs_5_11 (M : qM) (a : Nat) (z : Int) : (qF 5 M a).set 11 (.int (qI z)) = qF 5 (sI M a 11 z) a := by simp [qF, sI, up2, mI, mL, mR]
/-! the surroundings -/
def qXk : Cond → Bool
  | .fieldLinkNest .. => true
  | .methodLinkNest .. => true
  | .castable .. => true
  | .declares .. => true
  | .privateMethod .. => true
  | .arrayOver (.object _) => true
  | _ => false
def qX : List Cond := tables_1.filter qXk
theorem qX_i {w : Cond} (i : Nat) (h : tables_1[i]? = some w) (hg : qXk w = true) : w ∈ qX := List.mem_filter.mpr ⟨List.mem_of_getElem? h, hg⟩
theorem qX_warm {w : Cond} (hk : qXk w = true) {s U : State} (hW : s.WarmedH U.vm) (h : va_Nw w s) : va_Nw w U := by
  by_cases ho : ∃ n, w = .arrayOver (.object n)
  · obtain ⟨n, rfl⟩ := ho
    exact Cond.arrayOver_alike hW.alike h
  cases w <;> first | exact Bool.noConfusion hk | skip
  all_goals first | (rename_i ty; cases ty <;> first | exact Bool.noConfusion hk | exact absurd ⟨_, rfl⟩ ho) | exact va_Nw.warmF hW h | exact va_Nw.warmM hW h | exact va_Nw.warmC hW h | exact Cond.privateMethod_warm hW h | exact va_tabs (A := #[]) rfl (rfl : (s.setVm U.vm).vm = U.vm) ((Cond.declares_setVm hW.alike _).trans h)
def qStr : List (Nat × String) := [(49, "d is not 7 .. 1000000000 and 7 modulo 8"), (56, "a round is running"), (216, "there is no discriminant yet"), (218, "not 1 .. 500"), (69, "a round is running, or the book is full"), (117, "no squarings are left"), (133, "squarings are left, or no steps are"), (139, "no round is ready to be booked"), (229, "there is no such round"), (147, "what is not 0 .. 2"), (222, "a form has parts 0 .. 2"), (157, "which is not 0 .. 2"), (220, "the buffer has forms 0 .. 2"), (179, "there is no such form"), (226, "there is no such form in the buffer"), (191, "n is below 0"), (201, "most is not 1 .. 1000"), (211, "d is above 50000")]
def qE (D : va_G) (cy : Nat → ClassId) (A : Nat → Prop) (U : State) : Prop :=
  va_K D vwCl (qT cy) U ∧ (∀ w ∈ qX, va_Nw w U) ∧ vx_Zq Bundle.tN "UNASSIGNED_STACK" Bundle.steD A U U.heap ∧ vx_Zq Bundle.tN "SUPPRESSED_SENTINEL" Bundle.listD A U U.heap ∧ ∀ q ∈ qStr, ∃ sa, vk_R RX4 q.1 q.2 sa U
theorem qE_call {D : va_G} {cy : Nat → ClassId} {A B : Nat → Prop} {s U : State} {H : Heap} {locs : List Loc} (h : qE D cy A s) (hS : va_S A s.heap H locs) (hU : U.heap = H) (hW : s.WarmedH U.vm) (hB : ∀ q, B q → A q) : qE D cy B U := by
  obtain ⟨h1, h2, h3, h4, h5⟩ := h
  refine ⟨va_K.moved hW.alike h1, fun w hw => qX_warm (List.mem_filter.mp hw).2 hW (h2 w hw), ?_, ?_, fun q hq => ?_⟩
  · rw [hU]; exact (vx_Zq.moved hW.alike (vx_Zq.kept h3 hS.2.1)).narrow hB
  · rw [hU]; exact (vx_Zq.moved hW.alike (vx_Zq.kept h4 hS.2.1)).narrow hB
  · obtain ⟨sa, hsa⟩ := h5 q hq
    exact ⟨sa, vk_R.warm hW hsa⟩
theorem qE_frame {D : va_G} {cy : Nat → ClassId} {A : Nat → Prop} {U : State} (h : qE D cy A U) (g : JFrame) (mk : MethodId) (a : Array Value) : qE D cy A (U.calling g mk a) := by
  obtain ⟨h1, h2, h3, h4, h5⟩ := h
  refine ⟨va_K.moved (u := U) (U := U.calling g mk a) (Vm.Alike.refl U.vm) h1, fun w hw => qX_warm (List.mem_filter.mp hw).2 (s := U) (U := U.calling g mk a) (State.WarmedH.refl U) (h2 w hw), vx_Zq.moved (u := U) (U := U.calling g mk a) (Vm.Alike.refl U.vm) h3, vx_Zq.moved (u := U) (U := U.calling g mk a) (Vm.Alike.refl U.vm) h4, fun q hq => ?_⟩
  · obtain ⟨sa, hsa⟩ := h5 q hq
    exact ⟨sa, vk_R.warm (s := U) (U := U.calling g mk a) (State.WarmedH.refl U) hsa⟩
end
section
section QR
variable {p : Program} {l : Launch} {e : Env} {R : Room} {s : State} {m : MethodId} {args : Array Value} {below : List Frame} {meth : Method} {c : Code} {Q : State → Prop}
variable {cc : ByteArray} {nL : Nat} {own : String} {D : va_G} {cy : Nat → ClassId} {A : Nat → Prop} {cells slots : Nat} {pc : Nat} {lv lv' : List (Nat × Value)} {st : List Value} {M : qM}
/-- what a walk stands on -/
def qG (p : Program) (s : State) (m : MethodId) (args : Array Value) (meth : Method) (c : Code) (cc : ByteArray) (nL : Nat) (own : String) (D : va_G) (cy : Nat → ClassId) (A : Nat → Prop) : Prop :=
  p.tables.exec = Jvm.exec ∧ c.code = cc ∧ c.maxLocals = nL ∧ s.vm.findClass own = some m.cls ∧ (∀ w ∈ qB, w.before args s = true) ∧ meth.locks = false ∧ qE D cy A s ∧ (∀ q, s.heap.size ≤ q → A q)
/-- the machine at pc with locals lv, stack st, memory M comes to Q -/
def qK (p : Program) (l : Launch) (e : Env) (R : Room) (s : State) (m : MethodId) (args : Array Value) (below : List Frame) (meth : Method) (c : Code) (Q : State → Prop) (nL : Nat) (D : va_G) (cy : Nat → ClassId) (A : Nat → Prop) (cells slots pc : Nat) (lv : List (Nat × Value)) (st : List Value) (M : qM) : Prop :=
  ∀ (H : Heap) (locs : List Loc) (ls : Array Slot), va_P D vwCl (qW cy M) H → va_D A (qW cy M) → va_S A s.heap H locs → lv_has ls nL lv → W p l e R s m args below meth c H locs cells slots Q (F0 m pc ls st)
theorem q_iconst (G : qG p s m args meth c cc nL own D cy A) {n : Int} (hd : decode cc pc = .ok (.iconst n, 1))  (kk : qK p l e R s m args below meth c Q nL D cy A cells slots (pc + 1) lv (.int (qI n) :: st) (M)) : qK p l e R s m args below meth c Q nL D cy A cells slots (pc) lv (st) (M) := by
  intro H locs ls hP hD hS hL
  exact lv_iconst G.1 G.2.1 hd rfl (kk H locs ls hP hD hS hL)
theorem q_bipush (G : qG p s m args meth c cc nL own D cy A) {n : Int} (hd : decode cc pc = .ok (.bipush n, 2)) (hv : (Int8.ofInt n).toInt32 = qI n) (kk : qK p l e R s m args below meth c Q nL D cy A cells slots (pc + 2) lv (.int (qI n) :: st) (M)) : qK p l e R s m args below meth c Q nL D cy A cells slots (pc) lv (st) (M) := by
  intro H locs ls hP hD hS hL
  exact lv_bipush G.1 G.2.1 hd hv (kk H locs ls hP hD hS hL)
theorem q_sipush (G : qG p s m args meth c cc nL own D cy A) {n : Int} (hd : decode cc pc = .ok (.sipush n, 3)) (hv : (Int16.ofInt n).toInt32 = qI n) (kk : qK p l e R s m args below meth c Q nL D cy A cells slots (pc + 3) lv (.int (qI n) :: st) (M)) : qK p l e R s m args below meth c Q nL D cy A cells slots (pc) lv (st) (M) := by
  intro H locs ls hP hD hS hL
  exact lv_sipush G.1 G.2.1 hd hv (kk H locs ls hP hD hS hL)
theorem q_lconst (G : qG p s m args meth c cc nL own D cy A) {n : Fin 2} {z : Int} (hd : decode cc pc = .ok (.lconst n, 1)) (hv : Int64.ofNat (n : Nat) = qL z) (kk : qK p l e R s m args below meth c Q nL D cy A cells slots (pc + 1) lv (.long (qL z) :: st) (M)) : qK p l e R s m args below meth c Q nL D cy A cells slots (pc) lv (st) (M) := by
  intro H locs ls hP hD hS hL
  exact lv_lconst G.1 G.2.1 hd hv (kk H locs ls hP hD hS hL)
theorem q_ldc (G : qG p s m args meth c cc nL own D cy A) {index : Nat} {v : Int32} {z : Int} (hd : decode cc pc = .ok (.ldc index, 2)) (hw : Cond.constant own index v ∈ qB) (hv : v = qI z) (kk : qK p l e R s m args below meth c Q nL D cy A cells slots (pc + 2) lv (.int (qI z) :: st) (M)) : qK p l e R s m args below meth c Q nL D cy A cells slots (pc) lv (st) (M) := by
  intro H locs ls hP hD hS hL
  subst hv
  exact lv_ldc G.1 G.2.1 G.2.2.2.1 (G.2.2.2.2.1 _ hw) hd (kk H locs ls hP hD hS hL)
theorem q_ldc2 (G : qG p s m args meth c cc nL own D cy A) {index : Nat} {v : Int64} {z : Int} (hd : decode cc pc = .ok (.ldc2_w index, 3)) (hw : Cond.constantLong own index v ∈ qB) (hv : v = qL z) (kk : qK p l e R s m args below meth c Q nL D cy A cells slots (pc + 3) lv (.long (qL z) :: st) (M)) : qK p l e R s m args below meth c Q nL D cy A cells slots (pc) lv (st) (M) := by
  intro H locs ls hP hD hS hL
  subst hv
  exact lv_ldc2 G.1 G.2.1 G.2.2.2.1 (G.2.2.2.2.1 _ hw) hd (kk H locs ls hP hD hS hL)
theorem q_null (G : qG p s m args meth c cc nL own D cy A)  (hd : decode cc pc = .ok (.aconst_null, 1))  (kk : qK p l e R s m args below meth c Q nL D cy A cells slots (pc + 1) lv (.null :: st) (M)) : qK p l e R s m args below meth c Q nL D cy A cells slots (pc) lv (st) (M) := by
  intro H locs ls hP hD hS hL
  exact lv_null G.1 G.2.1 hd (kk H locs ls hP hD hS hL)
theorem q_iload_n (G : qG p s m args meth c cc nL own D cy A) {k : Fin 4} {x : Int32} (j i : Nat) (hd : decode cc pc = .ok (.iload_n k, 1)) (hi : (k : Nat) = i) (hl : lv[j]? = some (i, .int x)) (kk : qK p l e R s m args below meth c Q nL D cy A cells slots (pc + 1) lv (.int x :: st) (M)) : qK p l e R s m args below meth c Q nL D cy A cells slots (pc) lv (st) (M) := by
  intro H locs ls hP hD hS hL
  exact lv_iload_n G.1 G.2.1 hd hi (lv_at hL j hl) (kk H locs ls hP hD hS hL)
theorem q_iload (G : qG p s m args meth c cc nL own D cy A) {i : Nat} {x : Int32} (j : Nat) (hd : decode cc pc = .ok (.iload i, 2)) (hl : lv[j]? = some (i, .int x)) (kk : qK p l e R s m args below meth c Q nL D cy A cells slots (pc + 2) lv (.int x :: st) (M)) : qK p l e R s m args below meth c Q nL D cy A cells slots (pc) lv (st) (M) := by
  intro H locs ls hP hD hS hL
  exact lv_iload G.1 G.2.1 hd (lv_at hL j hl) (kk H locs ls hP hD hS hL)
theorem q_istore_n (G : qG p s m args meth c cc nL own D cy A) {k : Fin 4} {x : Int32} (i : Nat) (hd : decode cc pc = .ok (.istore_n k, 1)) (hi : (k : Nat) = i) (hn : i < nL) (hl : (i, Value.int x) :: lv.filter (fun q => !(q.1 == i) && !(q.1 + 1 == i && q.2.category == 2)) = lv') (kk : qK p l e R s m args below meth c Q nL D cy A cells slots (pc + 1) lv' (st) (M)) : qK p l e R s m args below meth c Q nL D cy A cells slots (pc) lv (.int x :: st) (M) := by
  intro H locs ls hP hD hS hL
  exact lv_istore_n G.1 G.2.1 hd hi hL hn hl (fun ls2 hL2 => kk H locs ls2 hP hD hS hL2)
theorem q_istore (G : qG p s m args meth c cc nL own D cy A) {i : Nat} {x : Int32} (hd : decode cc pc = .ok (.istore i, 2)) (hn : i < nL) (hl : (i, Value.int x) :: lv.filter (fun q => !(q.1 == i) && !(q.1 + 1 == i && q.2.category == 2)) = lv') (kk : qK p l e R s m args below meth c Q nL D cy A cells slots (pc + 2) lv' (st) (M)) : qK p l e R s m args below meth c Q nL D cy A cells slots (pc) lv (.int x :: st) (M) := by
  intro H locs ls hP hD hS hL
  exact lv_istore G.1 G.2.1 hd hL hn hl (fun ls2 hL2 => kk H locs ls2 hP hD hS hL2)
theorem q_lload_n (G : qG p s m args meth c cc nL own D cy A) {k : Fin 4} {x : Int64} (j i : Nat) (hd : decode cc pc = .ok (.lload_n k, 1)) (hi : (k : Nat) = i) (hl : lv[j]? = some (i, .long x)) (kk : qK p l e R s m args below meth c Q nL D cy A cells slots (pc + 1) lv (.long x :: st) (M)) : qK p l e R s m args below meth c Q nL D cy A cells slots (pc) lv (st) (M) := by
  intro H locs ls hP hD hS hL
  exact lv_lload_n G.1 G.2.1 hd hi (lv_at hL j hl) (kk H locs ls hP hD hS hL)
theorem q_lload (G : qG p s m args meth c cc nL own D cy A) {i : Nat} {x : Int64} (j : Nat) (hd : decode cc pc = .ok (.lload i, 2)) (hl : lv[j]? = some (i, .long x)) (kk : qK p l e R s m args below meth c Q nL D cy A cells slots (pc + 2) lv (.long x :: st) (M)) : qK p l e R s m args below meth c Q nL D cy A cells slots (pc) lv (st) (M) := by
  intro H locs ls hP hD hS hL
  exact lv_lload G.1 G.2.1 hd (lv_at hL j hl) (kk H locs ls hP hD hS hL)
theorem q_lstore_n (G : qG p s m args meth c cc nL own D cy A) {k : Fin 4} {x : Int64} (i : Nat) (hd : decode cc pc = .ok (.lstore_n k, 1)) (hi : (k : Nat) = i) (hn : i + 1 < nL) (hl : (i, Value.long x) :: lv.filter (fun q => !(q.1 == i) && (!(q.1 == i + 1) && !(q.1 + 1 == i && q.2.category == 2))) = lv') (kk : qK p l e R s m args below meth c Q nL D cy A cells slots (pc + 1) lv' (st) (M)) : qK p l e R s m args below meth c Q nL D cy A cells slots (pc) lv (.long x :: st) (M) := by
  intro H locs ls hP hD hS hL
  exact lv_lstore_n G.1 G.2.1 hd hi hL hn hl (fun ls2 hL2 => kk H locs ls2 hP hD hS hL2)
theorem q_lstore (G : qG p s m args meth c cc nL own D cy A) {i : Nat} {x : Int64} (hd : decode cc pc = .ok (.lstore i, 2)) (hn : i + 1 < nL) (hl : (i, Value.long x) :: lv.filter (fun q => !(q.1 == i) && (!(q.1 == i + 1) && !(q.1 + 1 == i && q.2.category == 2))) = lv') (kk : qK p l e R s m args below meth c Q nL D cy A cells slots (pc + 2) lv' (st) (M)) : qK p l e R s m args below meth c Q nL D cy A cells slots (pc) lv (.long x :: st) (M) := by
  intro H locs ls hP hD hS hL
  exact lv_lstore G.1 G.2.1 hd hL hn hl (fun ls2 hL2 => kk H locs ls2 hP hD hS hL2)
theorem q_aload_n (G : qG p s m args meth c cc nL own D cy A) {k : Fin 4} {x : Nat} (j i : Nat) (hd : decode cc pc = .ok (.aload_n k, 1)) (hi : (k : Nat) = i) (hl : lv[j]? = some (i, .ref x)) (kk : qK p l e R s m args below meth c Q nL D cy A cells slots (pc + 1) lv (.ref x :: st) (M)) : qK p l e R s m args below meth c Q nL D cy A cells slots (pc) lv (st) (M) := by
  intro H locs ls hP hD hS hL
  exact lv_aload_n G.1 G.2.1 hd hi (lv_at hL j hl) (kk H locs ls hP hD hS hL)
theorem q_aload (G : qG p s m args meth c cc nL own D cy A) {i : Nat} {x : Nat} (j : Nat) (hd : decode cc pc = .ok (.aload i, 2)) (hl : lv[j]? = some (i, .ref x)) (kk : qK p l e R s m args below meth c Q nL D cy A cells slots (pc + 2) lv (.ref x :: st) (M)) : qK p l e R s m args below meth c Q nL D cy A cells slots (pc) lv (st) (M) := by
  intro H locs ls hP hD hS hL
  exact lv_aload G.1 G.2.1 hd (lv_at hL j hl) (kk H locs ls hP hD hS hL)
theorem q_astore_n (G : qG p s m args meth c cc nL own D cy A) {k : Fin 4} {x : Nat} (i : Nat) (hd : decode cc pc = .ok (.astore_n k, 1)) (hi : (k : Nat) = i) (hn : i < nL) (hl : (i, Value.ref x) :: lv.filter (fun q => !(q.1 == i) && !(q.1 + 1 == i && q.2.category == 2)) = lv') (kk : qK p l e R s m args below meth c Q nL D cy A cells slots (pc + 1) lv' (st) (M)) : qK p l e R s m args below meth c Q nL D cy A cells slots (pc) lv (.ref x :: st) (M) := by
  intro H locs ls hP hD hS hL
  exact lv_astore_n G.1 G.2.1 hd hi hL hn hl (fun ls2 hL2 => kk H locs ls2 hP hD hS hL2)
theorem q_astore (G : qG p s m args meth c cc nL own D cy A) {i : Nat} {x : Nat} (hd : decode cc pc = .ok (.astore i, 2)) (hn : i < nL) (hl : (i, Value.ref x) :: lv.filter (fun q => !(q.1 == i) && !(q.1 + 1 == i && q.2.category == 2)) = lv') (kk : qK p l e R s m args below meth c Q nL D cy A cells slots (pc + 2) lv' (st) (M)) : qK p l e R s m args below meth c Q nL D cy A cells slots (pc) lv (.ref x :: st) (M) := by
  intro H locs ls hP hD hS hL
  exact lv_astore G.1 G.2.1 hd hL hn hl (fun ls2 hL2 => kk H locs ls2 hP hD hS hL2)
theorem q_iinc (G : qG p s m args meth c cc nL own D cy A) {i : Nat} {n x : Int} (j : Nat) (hd : decode cc pc = .ok (.iinc i n, 3)) (hj : lv[j]? = some (i, .int (qI x))) (hn : i < nL) (hl : (i, Value.int (qI (x + n))) :: lv.filter (fun q => !(q.1 == i) && !(q.1 + 1 == i && q.2.category == 2)) = lv') (kk : qK p l e R s m args below meth c Q nL D cy A cells slots (pc + 3) lv' (st) (M)) : qK p l e R s m args below meth c Q nL D cy A cells slots (pc) lv (st) (M) := by
  intro H locs ls hP hD hS hL
  exact lv_iinc G.1 G.2.1 hd hL hj (qI_add x n) hn hl (fun ls2 hL2 => kk H locs ls2 hP hD hS hL2)
theorem q_iadd (G : qG p s m args meth c cc nL own D cy A) {x y : Int} (hd : decode cc pc = .ok (.iadd, 1))  (kk : qK p l e R s m args below meth c Q nL D cy A cells slots (pc + 1) lv (.int (qI (x + y)) :: st) (M)) : qK p l e R s m args below meth c Q nL D cy A cells slots (pc) lv (.int (qI y) :: .int (qI x) :: st) (M) := by
  intro H locs ls hP hD hS hL
  have k9 := kk H locs ls hP hD hS hL
  rw [← qI_add] at k9
  exact lv_iadd G.1 G.2.1 hd  k9
theorem q_isub (G : qG p s m args meth c cc nL own D cy A) {x y : Int} (hd : decode cc pc = .ok (.isub, 1))  (kk : qK p l e R s m args below meth c Q nL D cy A cells slots (pc + 1) lv (.int (qI (x - y)) :: st) (M)) : qK p l e R s m args below meth c Q nL D cy A cells slots (pc) lv (.int (qI y) :: .int (qI x) :: st) (M) := by
  intro H locs ls hP hD hS hL
  have k9 := kk H locs ls hP hD hS hL
  rw [← qI_sub] at k9
  exact lv_isub G.1 G.2.1 hd  k9
theorem q_imul (G : qG p s m args meth c cc nL own D cy A) {x y : Int} (hd : decode cc pc = .ok (.imul, 1))  (kk : qK p l e R s m args below meth c Q nL D cy A cells slots (pc + 1) lv (.int (qI (x * y)) :: st) (M)) : qK p l e R s m args below meth c Q nL D cy A cells slots (pc) lv (.int (qI y) :: .int (qI x) :: st) (M) := by
  intro H locs ls hP hD hS hL
  have k9 := kk H locs ls hP hD hS hL
  rw [← qI_mul] at k9
  exact lv_imul G.1 G.2.1 hd  k9
theorem q_ladd (G : qG p s m args meth c cc nL own D cy A) {x y : Int} (hd : decode cc pc = .ok (.ladd, 1))  (kk : qK p l e R s m args below meth c Q nL D cy A cells slots (pc + 1) lv (.long (qL (x + y)) :: st) (M)) : qK p l e R s m args below meth c Q nL D cy A cells slots (pc) lv (.long (qL y) :: .long (qL x) :: st) (M) := by
  intro H locs ls hP hD hS hL
  have k9 := kk H locs ls hP hD hS hL
  rw [← qL_add] at k9
  exact lv_ladd G.1 G.2.1 hd  k9
theorem q_lsub (G : qG p s m args meth c cc nL own D cy A) {x y : Int} (hd : decode cc pc = .ok (.lsub, 1))  (kk : qK p l e R s m args below meth c Q nL D cy A cells slots (pc + 1) lv (.long (qL (x - y)) :: st) (M)) : qK p l e R s m args below meth c Q nL D cy A cells slots (pc) lv (.long (qL y) :: .long (qL x) :: st) (M) := by
  intro H locs ls hP hD hS hL
  have k9 := kk H locs ls hP hD hS hL
  rw [← qL_sub] at k9
  exact lv_lsub G.1 G.2.1 hd  k9
theorem q_lmul (G : qG p s m args meth c cc nL own D cy A) {x y : Int} (hd : decode cc pc = .ok (.lmul, 1))  (kk : qK p l e R s m args below meth c Q nL D cy A cells slots (pc + 1) lv (.long (qL (x * y)) :: st) (M)) : qK p l e R s m args below meth c Q nL D cy A cells slots (pc) lv (.long (qL y) :: .long (qL x) :: st) (M) := by
  intro H locs ls hP hD hS hL
  have k9 := kk H locs ls hP hD hS hL
  rw [← qL_mul] at k9
  exact lv_lmul G.1 G.2.1 hd  k9
theorem q_iand (G : qG p s m args meth c cc nL own D cy A) {x y : Int} (hd : decode cc pc = .ok (.iand, 1))  (kk : qK p l e R s m args below meth c Q nL D cy A cells slots (pc + 1) lv (.int (qI (qand x y)) :: st) (M)) : qK p l e R s m args below meth c Q nL D cy A cells slots (pc) lv (.int (qI y) :: .int (qI x) :: st) (M) := by
  intro H locs ls hP hD hS hL
  have k9 := kk H locs ls hP hD hS hL
  rw [← qand_e] at k9
  exact lv_iand G.1 G.2.1 hd  k9
theorem q_ixor (G : qG p s m args meth c cc nL own D cy A) {x y : Int} (hd : decode cc pc = .ok (.ixor, 1))  (kk : qK p l e R s m args below meth c Q nL D cy A cells slots (pc + 1) lv (.int (qI (qxor x y)) :: st) (M)) : qK p l e R s m args below meth c Q nL D cy A cells slots (pc) lv (.int (qI y) :: .int (qI x) :: st) (M) := by
  intro H locs ls hP hD hS hL
  have k9 := kk H locs ls hP hD hS hL
  rw [← qxor_e] at k9
  exact lv_ixor G.1 G.2.1 hd  k9
theorem q_ishr (G : qG p s m args meth c cc nL own D cy A) {x y : Int} (hd : decode cc pc = .ok (.ishr, 1))  (kk : qK p l e R s m args below meth c Q nL D cy A cells slots (pc + 1) lv (.int (qI (qshr x y)) :: st) (M)) : qK p l e R s m args below meth c Q nL D cy A cells slots (pc) lv (.int (qI y) :: .int (qI x) :: st) (M) := by
  intro H locs ls hP hD hS hL
  have k9 := kk H locs ls hP hD hS hL
  rw [← qshr_e] at k9
  exact lv_ishr G.1 G.2.1 hd  k9
theorem q_iushr (G : qG p s m args meth c cc nL own D cy A) {x y : Int} (hd : decode cc pc = .ok (.iushr, 1)) (kk : qK p l e R s m args below meth c Q nL D cy A cells slots (pc + 1) lv (.int (qI (qushr x y)) :: st) (M)) : qK p l e R s m args below meth c Q nL D cy A cells slots (pc) lv (.int (qI y) :: .int (qI x) :: st) (M) := by
  intro H locs ls hP hD hS hL
  exact lv_iushr G.1 G.2.1 hd (qushr_e x y) (kk H locs ls hP hD hS hL)
theorem q_idiv (G : qG p s m args meth c cc nL own D cy A) {x y : Int} (hd : decode cc pc = .ok (.idiv, 1)) (hx : r32 x) (hy : r32 y) (hne : y ≠ 0) (kk : qK p l e R s m args below meth c Q nL D cy A cells slots (pc + 1) lv (.int (qI (x.tdiv y)) :: st) (M)) : qK p l e R s m args below meth c Q nL D cy A cells slots (pc) lv (.int (qI y) :: .int (qI x) :: st) (M) := by
  intro H locs ls hP hD hS hL
  have k9 := kk H locs ls hP hD hS hL
  rw [← qI_div hx hy] at k9
  exact lv_idiv G.1 G.2.1 hd (fun h9 => hne ((qI_eq hy r32_0).mp (h9.trans qI_0.symm))) k9
theorem q_irem (G : qG p s m args meth c cc nL own D cy A) {x y : Int} (hd : decode cc pc = .ok (.irem, 1)) (hx : r32 x) (hy : r32 y) (hne : y ≠ 0) (kk : qK p l e R s m args below meth c Q nL D cy A cells slots (pc + 1) lv (.int (qI (x.tmod y)) :: st) (M)) : qK p l e R s m args below meth c Q nL D cy A cells slots (pc) lv (.int (qI y) :: .int (qI x) :: st) (M) := by
  intro H locs ls hP hD hS hL
  have k9 := kk H locs ls hP hD hS hL
  rw [← qI_rem hx hy] at k9
  exact lv_irem G.1 G.2.1 hd (fun h9 => hne ((qI_eq hy r32_0).mp (h9.trans qI_0.symm))) k9
theorem q_ineg (G : qG p s m args meth c cc nL own D cy A) {x : Int} (hd : decode cc pc = .ok (.ineg, 1)) (kk : qK p l e R s m args below meth c Q nL D cy A cells slots (pc + 1) lv (.int (qI (-x)) :: st) (M)) : qK p l e R s m args below meth c Q nL D cy A cells slots (pc) lv (.int (qI x) :: st) (M) := by
  intro H locs ls hP hD hS hL
  have k9 := kk H locs ls hP hD hS hL
  rw [← qI_neg] at k9
  exact lv_ineg G.1 G.2.1 hd k9
theorem q_ldiv (G : qG p s m args meth c cc nL own D cy A) {x y : Int} (hd : decode cc pc = .ok (.ldiv, 1)) (hx : r64 x) (hy : r64 y) (hne : y ≠ 0) (kk : qK p l e R s m args below meth c Q nL D cy A cells slots (pc + 1) lv (.long (qL (x.tdiv y)) :: st) (M)) : qK p l e R s m args below meth c Q nL D cy A cells slots (pc) lv (.long (qL y) :: .long (qL x) :: st) (M) := by
  intro H locs ls hP hD hS hL
  have k9 := kk H locs ls hP hD hS hL
  rw [← qL_div hx hy] at k9
  exact lv_ldiv G.1 G.2.1 hd (fun h9 => hne ((qL_eq hy r64_0).mp (h9.trans qL_0.symm))) k9
theorem q_lrem (G : qG p s m args meth c cc nL own D cy A) {x y : Int} (hd : decode cc pc = .ok (.lrem, 1)) (hx : r64 x) (hy : r64 y) (hne : y ≠ 0) (kk : qK p l e R s m args below meth c Q nL D cy A cells slots (pc + 1) lv (.long (qL (x.tmod y)) :: st) (M)) : qK p l e R s m args below meth c Q nL D cy A cells slots (pc) lv (.long (qL y) :: .long (qL x) :: st) (M) := by
  intro H locs ls hP hD hS hL
  have k9 := kk H locs ls hP hD hS hL
  rw [← qL_rem hx hy] at k9
  exact lv_lrem G.1 G.2.1 hd (fun h9 => hne ((qL_eq hy r64_0).mp (h9.trans qL_0.symm))) k9
theorem q_lneg (G : qG p s m args meth c cc nL own D cy A) {x : Int} (hd : decode cc pc = .ok (.lneg, 1)) (kk : qK p l e R s m args below meth c Q nL D cy A cells slots (pc + 1) lv (.long (qL (-x)) :: st) (M)) : qK p l e R s m args below meth c Q nL D cy A cells slots (pc) lv (.long (qL x) :: st) (M) := by
  intro H locs ls hP hD hS hL
  have k9 := kk H locs ls hP hD hS hL
  rw [← qL_neg] at k9
  exact lv_lneg G.1 G.2.1 hd k9
theorem q_i2l (G : qG p s m args meth c cc nL own D cy A) {x : Int} (hd : decode cc pc = .ok (.i2l, 1)) (hx : r32 x) (kk : qK p l e R s m args below meth c Q nL D cy A cells slots (pc + 1) lv (.long (qL x) :: st) (M)) : qK p l e R s m args below meth c Q nL D cy A cells slots (pc) lv (.int (qI x) :: st) (M) := by
  intro H locs ls hP hD hS hL
  exact lv_i2l G.1 G.2.1 hd (qI_wide hx) (kk H locs ls hP hD hS hL)
theorem q_l2i (G : qG p s m args meth c cc nL own D cy A) {x : Int} (hd : decode cc pc = .ok (.l2i, 1))  (kk : qK p l e R s m args below meth c Q nL D cy A cells slots (pc + 1) lv (.int (qI x) :: st) (M)) : qK p l e R s m args below meth c Q nL D cy A cells slots (pc) lv (.long (qL x) :: st) (M) := by
  intro H locs ls hP hD hS hL
  exact lv_l2i G.1 G.2.1 hd (qL_cut x) (kk H locs ls hP hD hS hL)
theorem q_dup (G : qG p s m args meth c cc nL own D cy A) {v : Value} (hd : decode cc pc = .ok (.dup, 1)) (hv : v.category = 1) (kk : qK p l e R s m args below meth c Q nL D cy A cells slots (pc + 1) lv (v :: v :: st) (M)) : qK p l e R s m args below meth c Q nL D cy A cells slots (pc) lv (v :: st) (M) := by
  intro H locs ls hP hD hS hL
  exact lv_dup G.1 G.2.1 hd hv (kk H locs ls hP hD hS hL)
theorem q_icmp_eq (G : qG p s m args meth c cc nL own D cy A) {x y : Int} {off : Int} {tgt : Nat} (hd : decode cc pc = .ok (.if_icmp .eq off, 3)) (ht : (pc : Int) + off = (tgt : Int)) (hx : r32 x) (hy : r32 y) (kt : x = y → qK p l e R s m args below meth c Q nL D cy A cells slots (tgt) lv (st) (M)) (kf : x ≠ y → qK p l e R s m args below meth c Q nL D cy A cells slots (pc + 3) lv (st) (M)) : qK p l e R s m args below meth c Q nL D cy A cells slots (pc) lv (.int (qI y) :: .int (qI x) :: st) (M) := by
  intro H locs ls hP hD hS hL
  exact lv_icmp_eq G.1 G.2.1 hd ht (fun h => kt ((qI_eq hx hy).mp h) H locs ls hP hD hS hL) (fun h => kf (fun h8 => h ((qI_eq hx hy).mpr h8)) H locs ls hP hD hS hL)
theorem q_if_eq (G : qG p s m args meth c cc nL own D cy A) {x : Int} {off : Int} {tgt : Nat} (hd : decode cc pc = .ok (.ifCond .eq off, 3)) (ht : (pc : Int) + off = (tgt : Int)) (hx : r32 x) (kt : x = 0 → qK p l e R s m args below meth c Q nL D cy A cells slots (tgt) lv (st) (M)) (kf : x ≠ 0 → qK p l e R s m args below meth c Q nL D cy A cells slots (pc + 3) lv (st) (M)) : qK p l e R s m args below meth c Q nL D cy A cells slots (pc) lv (.int (qI x) :: st) (M) := by
  intro H locs ls hP hD hS hL
  have hy := r32_0
  exact lv_if_eq G.1 G.2.1 hd ht (fun h => kt (by rw [← qI_0] at h; exact (qI_eq hx hy).mp h) H locs ls hP hD hS hL) (fun h => kf (by rw [← qI_0] at h; exact fun h8 => h ((qI_eq hx hy).mpr h8)) H locs ls hP hD hS hL)
theorem q_lcmp_eq (G : qG p s m args meth c cc nL own D cy A) {x y : Int} {off : Int} {tgt : Nat} (hc : decode cc pc = .ok (.lcmp, 1)) (hd : decode cc (pc + 1) = .ok (.ifCond .eq off, 3)) (ht : ((pc + 1 : Nat) : Int) + off = (tgt : Int)) (hx : r64 x) (hy : r64 y) (kt : x = y → qK p l e R s m args below meth c Q nL D cy A cells slots (tgt) lv (st) (M)) (kf : x ≠ y → qK p l e R s m args below meth c Q nL D cy A cells slots (pc + 4) lv (st) (M)) : qK p l e R s m args below meth c Q nL D cy A cells slots (pc) lv (.long (qL y) :: .long (qL x) :: st) (M) := by
  intro H locs ls hP hD hS hL
  refine W.lcmp G.1 G.2.1 hc ?_
  exact lv_if_eq G.1 G.2.1 hd ht (fun h => kt (by rw [lg_cmp_eq] at h; exact (qL_eq hx hy).mp h) H locs ls hP hD hS hL) (fun h => kf (by rw [lg_cmp_eq] at h; exact fun h8 => h ((qL_eq hx hy).mpr h8)) H locs ls hP hD hS hL)
theorem q_icmp_ne (G : qG p s m args meth c cc nL own D cy A) {x y : Int} {off : Int} {tgt : Nat} (hd : decode cc pc = .ok (.if_icmp .ne off, 3)) (ht : (pc : Int) + off = (tgt : Int)) (hx : r32 x) (hy : r32 y) (kt : x ≠ y → qK p l e R s m args below meth c Q nL D cy A cells slots (tgt) lv (st) (M)) (kf : x = y → qK p l e R s m args below meth c Q nL D cy A cells slots (pc + 3) lv (st) (M)) : qK p l e R s m args below meth c Q nL D cy A cells slots (pc) lv (.int (qI y) :: .int (qI x) :: st) (M) := by
  intro H locs ls hP hD hS hL
  exact lv_icmp_ne G.1 G.2.1 hd ht (fun h => kt (fun h8 => h ((qI_eq hx hy).mpr h8)) H locs ls hP hD hS hL) (fun h => kf ((qI_eq hx hy).mp h) H locs ls hP hD hS hL)
theorem q_if_ne (G : qG p s m args meth c cc nL own D cy A) {x : Int} {off : Int} {tgt : Nat} (hd : decode cc pc = .ok (.ifCond .ne off, 3)) (ht : (pc : Int) + off = (tgt : Int)) (hx : r32 x) (kt : x ≠ 0 → qK p l e R s m args below meth c Q nL D cy A cells slots (tgt) lv (st) (M)) (kf : x = 0 → qK p l e R s m args below meth c Q nL D cy A cells slots (pc + 3) lv (st) (M)) : qK p l e R s m args below meth c Q nL D cy A cells slots (pc) lv (.int (qI x) :: st) (M) := by
  intro H locs ls hP hD hS hL
  have hy := r32_0
  exact lv_if_ne G.1 G.2.1 hd ht (fun h => kt (by rw [← qI_0] at h; exact fun h8 => h ((qI_eq hx hy).mpr h8)) H locs ls hP hD hS hL) (fun h => kf (by rw [← qI_0] at h; exact (qI_eq hx hy).mp h) H locs ls hP hD hS hL)
theorem q_lcmp_ne (G : qG p s m args meth c cc nL own D cy A) {x y : Int} {off : Int} {tgt : Nat} (hc : decode cc pc = .ok (.lcmp, 1)) (hd : decode cc (pc + 1) = .ok (.ifCond .ne off, 3)) (ht : ((pc + 1 : Nat) : Int) + off = (tgt : Int)) (hx : r64 x) (hy : r64 y) (kt : x ≠ y → qK p l e R s m args below meth c Q nL D cy A cells slots (tgt) lv (st) (M)) (kf : x = y → qK p l e R s m args below meth c Q nL D cy A cells slots (pc + 4) lv (st) (M)) : qK p l e R s m args below meth c Q nL D cy A cells slots (pc) lv (.long (qL y) :: .long (qL x) :: st) (M) := by
  intro H locs ls hP hD hS hL
  refine W.lcmp G.1 G.2.1 hc ?_
  exact lv_if_ne G.1 G.2.1 hd ht (fun h => kt (by rw [lg_cmp_eq] at h; exact fun h8 => h ((qL_eq hx hy).mpr h8)) H locs ls hP hD hS hL) (fun h => kf (by rw [lg_cmp_eq] at h; exact (qL_eq hx hy).mp h) H locs ls hP hD hS hL)
theorem q_icmp_lt (G : qG p s m args meth c cc nL own D cy A) {x y : Int} {off : Int} {tgt : Nat} (hd : decode cc pc = .ok (.if_icmp .lt off, 3)) (ht : (pc : Int) + off = (tgt : Int)) (hx : r32 x) (hy : r32 y) (kt : x < y → qK p l e R s m args below meth c Q nL D cy A cells slots (tgt) lv (st) (M)) (kf : y ≤ x → qK p l e R s m args below meth c Q nL D cy A cells slots (pc + 3) lv (st) (M)) : qK p l e R s m args below meth c Q nL D cy A cells slots (pc) lv (.int (qI y) :: .int (qI x) :: st) (M) := by
  intro H locs ls hP hD hS hL
  exact lv_icmp_lt G.1 G.2.1 hd ht (fun h => kt ((qI_lt hx hy).mp h) H locs ls hP hD hS hL) (fun h => kf (Int.not_lt.mp (fun h8 => h ((qI_lt hx hy).mpr h8))) H locs ls hP hD hS hL)
theorem q_if_lt (G : qG p s m args meth c cc nL own D cy A) {x : Int} {off : Int} {tgt : Nat} (hd : decode cc pc = .ok (.ifCond .lt off, 3)) (ht : (pc : Int) + off = (tgt : Int)) (hx : r32 x) (kt : x < 0 → qK p l e R s m args below meth c Q nL D cy A cells slots (tgt) lv (st) (M)) (kf : 0 ≤ x → qK p l e R s m args below meth c Q nL D cy A cells slots (pc + 3) lv (st) (M)) : qK p l e R s m args below meth c Q nL D cy A cells slots (pc) lv (.int (qI x) :: st) (M) := by
  intro H locs ls hP hD hS hL
  have hy := r32_0
  exact lv_if_lt G.1 G.2.1 hd ht (fun h => kt (by rw [← qI_0] at h; exact (qI_lt hx hy).mp h) H locs ls hP hD hS hL) (fun h => kf (by rw [← qI_0] at h; exact Int.not_lt.mp (fun h8 => h ((qI_lt hx hy).mpr h8))) H locs ls hP hD hS hL)
theorem q_lcmp_lt (G : qG p s m args meth c cc nL own D cy A) {x y : Int} {off : Int} {tgt : Nat} (hc : decode cc pc = .ok (.lcmp, 1)) (hd : decode cc (pc + 1) = .ok (.ifCond .lt off, 3)) (ht : ((pc + 1 : Nat) : Int) + off = (tgt : Int)) (hx : r64 x) (hy : r64 y) (kt : x < y → qK p l e R s m args below meth c Q nL D cy A cells slots (tgt) lv (st) (M)) (kf : y ≤ x → qK p l e R s m args below meth c Q nL D cy A cells slots (pc + 4) lv (st) (M)) : qK p l e R s m args below meth c Q nL D cy A cells slots (pc) lv (.long (qL y) :: .long (qL x) :: st) (M) := by
  intro H locs ls hP hD hS hL
  refine W.lcmp G.1 G.2.1 hc ?_
  exact lv_if_lt G.1 G.2.1 hd ht (fun h => kt (by rw [lg_cmp_lt] at h; exact (qL_lt hx hy).mp h) H locs ls hP hD hS hL) (fun h => kf (by rw [lg_cmp_lt] at h; exact Int.not_lt.mp (fun h8 => h ((qL_lt hx hy).mpr h8))) H locs ls hP hD hS hL)
theorem q_icmp_ge (G : qG p s m args meth c cc nL own D cy A) {x y : Int} {off : Int} {tgt : Nat} (hd : decode cc pc = .ok (.if_icmp .ge off, 3)) (ht : (pc : Int) + off = (tgt : Int)) (hx : r32 x) (hy : r32 y) (kt : y ≤ x → qK p l e R s m args below meth c Q nL D cy A cells slots (tgt) lv (st) (M)) (kf : x < y → qK p l e R s m args below meth c Q nL D cy A cells slots (pc + 3) lv (st) (M)) : qK p l e R s m args below meth c Q nL D cy A cells slots (pc) lv (.int (qI y) :: .int (qI x) :: st) (M) := by
  intro H locs ls hP hD hS hL
  exact lv_icmp_ge G.1 G.2.1 hd ht (fun h => kt ((qI_le hy hx).mp h) H locs ls hP hD hS hL) (fun h => kf (Int.not_le.mp (fun h8 => h ((qI_le hy hx).mpr h8))) H locs ls hP hD hS hL)
theorem q_if_ge (G : qG p s m args meth c cc nL own D cy A) {x : Int} {off : Int} {tgt : Nat} (hd : decode cc pc = .ok (.ifCond .ge off, 3)) (ht : (pc : Int) + off = (tgt : Int)) (hx : r32 x) (kt : 0 ≤ x → qK p l e R s m args below meth c Q nL D cy A cells slots (tgt) lv (st) (M)) (kf : x < 0 → qK p l e R s m args below meth c Q nL D cy A cells slots (pc + 3) lv (st) (M)) : qK p l e R s m args below meth c Q nL D cy A cells slots (pc) lv (.int (qI x) :: st) (M) := by
  intro H locs ls hP hD hS hL
  have hy := r32_0
  exact lv_if_ge G.1 G.2.1 hd ht (fun h => kt (by rw [← qI_0] at h; exact (qI_le hy hx).mp h) H locs ls hP hD hS hL) (fun h => kf (by rw [← qI_0] at h; exact Int.not_le.mp (fun h8 => h ((qI_le hy hx).mpr h8))) H locs ls hP hD hS hL)
theorem q_lcmp_ge (G : qG p s m args meth c cc nL own D cy A) {x y : Int} {off : Int} {tgt : Nat} (hc : decode cc pc = .ok (.lcmp, 1)) (hd : decode cc (pc + 1) = .ok (.ifCond .ge off, 3)) (ht : ((pc + 1 : Nat) : Int) + off = (tgt : Int)) (hx : r64 x) (hy : r64 y) (kt : y ≤ x → qK p l e R s m args below meth c Q nL D cy A cells slots (tgt) lv (st) (M)) (kf : x < y → qK p l e R s m args below meth c Q nL D cy A cells slots (pc + 4) lv (st) (M)) : qK p l e R s m args below meth c Q nL D cy A cells slots (pc) lv (.long (qL y) :: .long (qL x) :: st) (M) := by
  intro H locs ls hP hD hS hL
  refine W.lcmp G.1 G.2.1 hc ?_
  exact lv_if_ge G.1 G.2.1 hd ht (fun h => kt (by rw [lg_cmp_ge] at h; exact (qL_le hy hx).mp h) H locs ls hP hD hS hL) (fun h => kf (by rw [lg_cmp_ge] at h; exact Int.not_le.mp (fun h8 => h ((qL_le hy hx).mpr h8))) H locs ls hP hD hS hL)
theorem q_icmp_gt (G : qG p s m args meth c cc nL own D cy A) {x y : Int} {off : Int} {tgt : Nat} (hd : decode cc pc = .ok (.if_icmp .gt off, 3)) (ht : (pc : Int) + off = (tgt : Int)) (hx : r32 x) (hy : r32 y) (kt : y < x → qK p l e R s m args below meth c Q nL D cy A cells slots (tgt) lv (st) (M)) (kf : x ≤ y → qK p l e R s m args below meth c Q nL D cy A cells slots (pc + 3) lv (st) (M)) : qK p l e R s m args below meth c Q nL D cy A cells slots (pc) lv (.int (qI y) :: .int (qI x) :: st) (M) := by
  intro H locs ls hP hD hS hL
  exact lv_icmp_gt G.1 G.2.1 hd ht (fun h => kt ((qI_lt hy hx).mp h) H locs ls hP hD hS hL) (fun h => kf (Int.not_lt.mp (fun h8 => h ((qI_lt hy hx).mpr h8))) H locs ls hP hD hS hL)
theorem q_if_gt (G : qG p s m args meth c cc nL own D cy A) {x : Int} {off : Int} {tgt : Nat} (hd : decode cc pc = .ok (.ifCond .gt off, 3)) (ht : (pc : Int) + off = (tgt : Int)) (hx : r32 x) (kt : 0 < x → qK p l e R s m args below meth c Q nL D cy A cells slots (tgt) lv (st) (M)) (kf : x ≤ 0 → qK p l e R s m args below meth c Q nL D cy A cells slots (pc + 3) lv (st) (M)) : qK p l e R s m args below meth c Q nL D cy A cells slots (pc) lv (.int (qI x) :: st) (M) := by
  intro H locs ls hP hD hS hL
  have hy := r32_0
  exact lv_if_gt G.1 G.2.1 hd ht (fun h => kt (by rw [← qI_0] at h; exact (qI_lt hy hx).mp h) H locs ls hP hD hS hL) (fun h => kf (by rw [← qI_0] at h; exact Int.not_lt.mp (fun h8 => h ((qI_lt hy hx).mpr h8))) H locs ls hP hD hS hL)
theorem q_lcmp_gt (G : qG p s m args meth c cc nL own D cy A) {x y : Int} {off : Int} {tgt : Nat} (hc : decode cc pc = .ok (.lcmp, 1)) (hd : decode cc (pc + 1) = .ok (.ifCond .gt off, 3)) (ht : ((pc + 1 : Nat) : Int) + off = (tgt : Int)) (hx : r64 x) (hy : r64 y) (kt : y < x → qK p l e R s m args below meth c Q nL D cy A cells slots (tgt) lv (st) (M)) (kf : x ≤ y → qK p l e R s m args below meth c Q nL D cy A cells slots (pc + 4) lv (st) (M)) : qK p l e R s m args below meth c Q nL D cy A cells slots (pc) lv (.long (qL y) :: .long (qL x) :: st) (M) := by
  intro H locs ls hP hD hS hL
  refine W.lcmp G.1 G.2.1 hc ?_
  exact lv_if_gt G.1 G.2.1 hd ht (fun h => kt (by rw [lg_cmp_gt] at h; exact (qL_lt hy hx).mp h) H locs ls hP hD hS hL) (fun h => kf (by rw [lg_cmp_gt] at h; exact Int.not_lt.mp (fun h8 => h ((qL_lt hy hx).mpr h8))) H locs ls hP hD hS hL)
theorem q_icmp_le (G : qG p s m args meth c cc nL own D cy A) {x y : Int} {off : Int} {tgt : Nat} (hd : decode cc pc = .ok (.if_icmp .le off, 3)) (ht : (pc : Int) + off = (tgt : Int)) (hx : r32 x) (hy : r32 y) (kt : x ≤ y → qK p l e R s m args below meth c Q nL D cy A cells slots (tgt) lv (st) (M)) (kf : y < x → qK p l e R s m args below meth c Q nL D cy A cells slots (pc + 3) lv (st) (M)) : qK p l e R s m args below meth c Q nL D cy A cells slots (pc) lv (.int (qI y) :: .int (qI x) :: st) (M) := by
  intro H locs ls hP hD hS hL
  exact lv_icmp_le G.1 G.2.1 hd ht (fun h => kt ((qI_le hx hy).mp h) H locs ls hP hD hS hL) (fun h => kf (Int.not_le.mp (fun h8 => h ((qI_le hx hy).mpr h8))) H locs ls hP hD hS hL)
theorem q_if_le (G : qG p s m args meth c cc nL own D cy A) {x : Int} {off : Int} {tgt : Nat} (hd : decode cc pc = .ok (.ifCond .le off, 3)) (ht : (pc : Int) + off = (tgt : Int)) (hx : r32 x) (kt : x ≤ 0 → qK p l e R s m args below meth c Q nL D cy A cells slots (tgt) lv (st) (M)) (kf : 0 < x → qK p l e R s m args below meth c Q nL D cy A cells slots (pc + 3) lv (st) (M)) : qK p l e R s m args below meth c Q nL D cy A cells slots (pc) lv (.int (qI x) :: st) (M) := by
  intro H locs ls hP hD hS hL
  have hy := r32_0
  exact lv_if_le G.1 G.2.1 hd ht (fun h => kt (by rw [← qI_0] at h; exact (qI_le hx hy).mp h) H locs ls hP hD hS hL) (fun h => kf (by rw [← qI_0] at h; exact Int.not_le.mp (fun h8 => h ((qI_le hx hy).mpr h8))) H locs ls hP hD hS hL)
theorem q_lcmp_le (G : qG p s m args meth c cc nL own D cy A) {x y : Int} {off : Int} {tgt : Nat} (hc : decode cc pc = .ok (.lcmp, 1)) (hd : decode cc (pc + 1) = .ok (.ifCond .le off, 3)) (ht : ((pc + 1 : Nat) : Int) + off = (tgt : Int)) (hx : r64 x) (hy : r64 y) (kt : x ≤ y → qK p l e R s m args below meth c Q nL D cy A cells slots (tgt) lv (st) (M)) (kf : y < x → qK p l e R s m args below meth c Q nL D cy A cells slots (pc + 4) lv (st) (M)) : qK p l e R s m args below meth c Q nL D cy A cells slots (pc) lv (.long (qL y) :: .long (qL x) :: st) (M) := by
  intro H locs ls hP hD hS hL
  refine W.lcmp G.1 G.2.1 hc ?_
  exact lv_if_le G.1 G.2.1 hd ht (fun h => kt (by rw [lg_cmp_le] at h; exact (qL_le hx hy).mp h) H locs ls hP hD hS hL) (fun h => kf (by rw [lg_cmp_le] at h; exact Int.not_le.mp (fun h8 => h ((qL_le hx hy).mpr h8))) H locs ls hP hD hS hL)
theorem q_goto (G : qG p s m args meth c cc nL own D cy A) {off : Int} {tgt : Nat} (hd : decode cc pc = .ok (.goto off, 3)) (ht : (pc : Int) + off = (tgt : Int)) (kk : qK p l e R s m args below meth c Q nL D cy A cells slots (tgt) lv (st) (M)) : qK p l e R s m args below meth c Q nL D cy A cells slots (pc) lv (st) (M) := by
  intro H locs ls hP hD hS hL
  exact lv_goto G.1 G.2.1 hd ht (kk H locs ls hP hD hS hL)
theorem q_ifnull (G : qG p s m args meth c cc nL own D cy A) {x : Option Nat} {off : Int} {tgt : Nat} (hd : decode cc pc = .ok (.ifnull off, 3)) (ht : (pc : Int) + off = (tgt : Int)) (kt : x = none → qK p l e R s m args below meth c Q nL D cy A cells slots (tgt) lv (st) (M)) (kf : ∀ a, x = some a → qK p l e R s m args below meth c Q nL D cy A cells slots (pc + 3) lv (st) (M)) : qK p l e R s m args below meth c Q nL D cy A cells slots (pc) lv (va_rf x :: st) (M) := by
  intro H locs ls hP hD hS hL
  cases x with
  | none => exact lv_ifnullN G.1 G.2.1 hd ht (kt rfl H locs ls hP hD hS hL)
  | some a => exact lv_ifnull G.1 G.2.1 hd (kf a rfl H locs ls hP hD hS hL)
theorem q_ifnonnull (G : qG p s m args meth c cc nL own D cy A) {x : Option Nat} {off : Int} {tgt : Nat} (hd : decode cc pc = .ok (.ifnonnull off, 3)) (ht : (pc : Int) + off = (tgt : Int)) (kt : ∀ a, x = some a → qK p l e R s m args below meth c Q nL D cy A cells slots (tgt) lv (st) (M)) (kf : x = none → qK p l e R s m args below meth c Q nL D cy A cells slots (pc + 3) lv (st) (M)) : qK p l e R s m args below meth c Q nL D cy A cells slots (pc) lv (va_rf x :: st) (M) := by
  intro H locs ls hP hD hS hL
  cases x with
  | none => exact lv_ifnonnullN G.1 G.2.1 hd (kf rfl H locs ls hP hD hS hL)
  | some a => exact lv_ifnonnull G.1 G.2.1 hd ht (kt a rfl H locs ls hP hD hS hL)
theorem q_tableIn (G : qG p s m args meth c cc nL own D cy A) {dflt lo hi off : Int} {offs : Array Int} {len : Nat} {x : Int} {tgt : Nat} (hd : decode cc pc = .ok (.tableswitch dflt lo hi offs, len)) (hx : r32 x) (h1 : lo ≤ x) (h2 : x ≤ hi) (ho : offs[(x - lo).toNat]? = some off) (ht : (pc : Int) + off = (tgt : Int)) (kk : qK p l e R s m args below meth c Q nL D cy A cells slots (tgt) lv (st) (M)) : qK p l e R s m args below meth c Q nL D cy A cells slots (pc) lv (.int (qI x) :: st) (M) := by
  intro H locs ls hP hD hS hL
  exact lv_tableIn G.1 G.2.1 hd (by rw [qI_int hx]; omega) (by rw [qI_int hx]; omega) (by rw [qI_int hx]; exact ho) ht (kk H locs ls hP hD hS hL)
theorem q_tableOut (G : qG p s m args meth c cc nL own D cy A) {dflt lo hi : Int} {offs : Array Int} {len : Nat} {x : Int} {tgt : Nat} (hd : decode cc pc = .ok (.tableswitch dflt lo hi offs, len)) (hx : r32 x) (h : x < lo ∨ hi < x) (ht : (pc : Int) + dflt = (tgt : Int)) (kk : qK p l e R s m args below meth c Q nL D cy A cells slots (tgt) lv (st) (M)) : qK p l e R s m args below meth c Q nL D cy A cells slots (pc) lv (.int (qI x) :: st) (M) := by
  intro H locs ls hP hD hS hL
  exact lv_tableOut G.1 G.2.1 hd (by rw [qI_int hx]; exact h) ht (kk H locs ls hP hD hS hL)
/-- a field's link: plain, or of a nest mate -/
def qFL (own : String) (index ci k : Nat) : Prop := ∃ (C : String) (T : u_T) (N : Nat), vwCl[ci]? = some (C, T, N) ∧ k < N ∧ (∀ w ∈ u_ws C T N, w ∈ qB) ∧ (Cond.fieldLink own index (T k).1 (T k).2.1 (T k).2.2.1 ∈ qB ∨ ∃ host, Cond.fieldLinkNest own index (T k).1 (T k).2.1 (T k).2.2.1 host ∈ qX)
theorem q_get (G : qG p s m args meth c cc nL own D cy A) {index ci k a : Nat} {v : Value} (hd : decode cc pc = .ok (.getfield index, 3)) (hf : qFL own index ci k) (ha : a ∈ mP M) (hk : mK M a = ci) (hc : ci < 6) (hv : (qF ci M a)[k]? = some v) (kk : qK p l e R s m args below meth c Q nL D cy A cells slots (pc + 3) lv (v :: st) (M)) : qK p l e R s m args below meth c Q nL D cy A cells slots (pc) lv (.ref a :: st) (M) := by
  intro H locs ls hP hD hS hL
  obtain ⟨q0, hq⟩ := qW_get (cy := cy) ha
  rw [qC_o hk hc] at hq
  obtain ⟨C, T, N, h1, h2, h3, h4⟩ := hf
  rcases h4 with h4 | ⟨host, h4⟩
  · exact va_get (D := D) G.1 G.2.1 G.2.2.2.2.1 h3 G.2.2.2.1 G.2.2.2.2.2.2.1.1 hP q0 hq h1 k h2 (G.2.2.2.2.1 _ h4) (fun _ h9 => h9) hv hd (kk H locs ls hP hD hS hL)
  · exact va_getN (D := D) G.1 G.2.1 G.2.2.2.2.1 h3 G.2.2.2.1 G.2.2.2.2.2.2.1.1 hP q0 hq h1 k h2 (va_Nw.use rfl (G.2.2.2.2.2.2.1.2.1 _ h4)) (fun _ h9 => h9) hv hd (kk H locs ls hP hD hS hL)
/-- what is put: its type -/
def qPL (own : String) (index ci k : Nat) (v : Value) : Prop := ∃ (C : String) (T : u_T) (N : Nat) (ty0 : Nat → FieldType) (ty : FieldType), vwCl[ci]? = some (C, T, N) ∧ k < N ∧ (∀ w ∈ u_ws C T N, w ∈ qB) ∧ (∀ k, k < N → parseFieldDescriptor (T k).2.2.1 = some (ty0 k)) ∧ (∀ a, a < N → ∀ b, b < N → a ≠ b → (T a).2.1 ≠ (T b).2.1) ∧ parseFieldDescriptor (T k).2.2.1 = some ty ∧ narrow ty v = v ∧ fits ty v = true ∧
  (((T k).2.2.2 = false ∧ (Cond.fieldLink own index (T k).1 (T k).2.1 (T k).2.2.1 ∈ qB ∨ ∃ host, Cond.fieldLinkNest own index (T k).1 (T k).2.1 (T k).2.2.1 host ∈ qX)) ∨ ((T k).2.2.2 = true ∧ (T k).1 = own ∧ Cond.fieldLink own index (T k).1 (T k).2.1 (T k).2.2.1 ∈ qB))
theorem q_put (G : qG p s m args meth c cc nL own D cy A) {index ci k a : Nat} {v : Value} {M' : qM} (hd : decode cc pc = .ok (.putfield index, 3)) (hf : qPL own index ci k v) (hfin : ∀ (C : String) (T : u_T) (N : Nat), vwCl[ci]? = some (C, T, N) → (T k).2.2.2 = true → meth.name = "<init>") (ha : a ∈ mP M) (hk : mK M a = ci) (hc : ci < 6) (hl : k < (qF ci M a).length) (hk2 : mK M' a = ci) (hp : mP M' = mP M) (he : (qF ci M a).set k v = qF ci M' a) (ho : ∀ b, b ≠ a → qC cy M' b = qC cy M b) (kk : qK p l e R s m args below meth c Q nL D cy A cells slots (pc + 3) lv (st) (M')) : qK p l e R s m args below meth c Q nL D cy A cells slots (pc) lv (v :: .ref a :: st) (M) := by
  intro H locs ls hP hD hS hL
  obtain ⟨q0, hq⟩ := qW_get (cy := cy) ha
  have hq2 := hq
  rw [qC_o hk hc] at hq
  have hset := qW_set hD ha hq2 hp ho
  rw [qC_o hk2 hc, ← he] at hset
  have fin : ∀ (H1 : Heap) (locs1 : List Loc), va_P D vwCl ((qW cy M).set q0 (a, .inr (ci, (qF ci M a).set k v))) H1 → va_D A ((qW cy M).set q0 (a, .inr (ci, (qF ci M a).set k v))) → va_S A s.heap H1 locs1 → W p l e R s m args below meth c H1 locs1 cells slots Q (F0 m (pc + 3) ls st) := by
    intro H1 locs1 h1 h2 h3
    rw [hset] at h1 h2
    exact kk H1 locs1 ls h1 h2 h3 hL
  obtain ⟨C, T, N, ty0, ty, h1, h2, h3, h5, h6, h7, h8, h9, h4⟩ := hf
  rcases h4 with ⟨h10, h4 | ⟨host, h4⟩⟩ | ⟨h10, h11, h4⟩
  · exact va_put (D := D) G.1 G.2.1 G.2.2.2.2.1 h3 ty0 h5 h6 G.2.2.2.1 G.2.2.2.2.2.2.1.1 hP hD hS q0 hq h1 k h2 (G.2.2.2.2.1 _ h4) (fun _ h9 => h9) h10 h7 h8 h9 hl hd fin
  · exact va_putN (D := D) G.1 G.2.1 G.2.2.2.2.1 h3 ty0 h5 h6 G.2.2.2.1 G.2.2.2.2.2.2.1.1 hP hD hS q0 hq h1 k h2 (va_Nw.use rfl (G.2.2.2.2.2.2.1.2.1 _ h4)) (fun _ h9 => h9) h10 h7 h8 h9 hl hd fin
  · exact va_putF (D := D) G.1 G.2.1 G.2.2.2.2.1 h3 ty0 h5 h6 G.2.2.2.1 G.2.2.2.2.2.2.1.1 hP hD hS q0 hq h1 k h2 (G.2.2.2.2.1 _ h4) (fun _ h9 => h9) h10 (hfin C T N h1 h10) h11 h7 h8 h9 hl hd fin
theorem q_iaload (G : qG p s m args meth c cc nL own D cy A) {a : Nat} {i : Int} (hd : decode cc pc = .ok (.iaload, 1)) (ha : a ∈ mP M) (hk : mK M a = 6) (h0 : 0 ≤ i) (hi : i < mN M a) (hN : mN M a < 2147483648) (kk : qK p l e R s m args below meth c Q nL D cy A cells slots (pc + 1) lv (.int (qI (mI M a i.toNat)) :: st) (M)) : qK p l e R s m args below meth c Q nL D cy A cells slots (pc) lv (.int (qI i) :: .ref a :: st) (M) := by
  intro H locs ls hP hD hS hL
  obtain ⟨q0, hq⟩ := qW_get (cy := cy) ha
  rw [qC_I hk] at hq
  refine va_iald (D := D) G.1 G.2.1 G.2.2.2.2.2.2.1.1 hP q0 0 hq rfl (qI_in h0 hi hN) hd ?_
  rw [qI_nat h0 (by omega)]
  exact kk H locs ls hP hD hS hL
theorem q_laload (G : qG p s m args meth c cc nL own D cy A) {a : Nat} {i : Int} (hd : decode cc pc = .ok (.laload, 1)) (ha : a ∈ mP M) (hk : mK M a = 7) (h0 : 0 ≤ i) (hi : i < mN M a) (hN : mN M a < 2147483648) (kk : qK p l e R s m args below meth c Q nL D cy A cells slots (pc + 1) lv (.long (qL (mL M a i.toNat)) :: st) (M)) : qK p l e R s m args below meth c Q nL D cy A cells slots (pc) lv (.int (qI i) :: .ref a :: st) (M) := by
  intro H locs ls hP hD hS hL
  obtain ⟨q0, hq⟩ := qW_get (cy := cy) ha
  rw [qC_J hk] at hq
  refine va_lald (D := D) G.1 G.2.1 G.2.2.2.2.2.2.1.1 hP q0 1 hq rfl (qI_in h0 hi hN) hd ?_
  rw [qI_nat h0 (by omega)]
  exact kk H locs ls hP hD hS hL
theorem q_baload (G : qG p s m args meth c cc nL own D cy A) {a : Nat} {i : Int} (hd : decode cc pc = .ok (.baload, 1)) (ha : a ∈ mP M) (hk : mK M a = 8) (h0 : 0 ≤ i) (hi : i < mN M a) (hN : mN M a < 2147483648) (kk : qK p l e R s m args below meth c Q nL D cy A cells slots (pc + 1) lv (.int (qI (mI M a i.toNat)) :: st) (M)) : qK p l e R s m args below meth c Q nL D cy A cells slots (pc) lv (.int (qI i) :: .ref a :: st) (M) := by
  intro H locs ls hP hD hS hL
  obtain ⟨q0, hq⟩ := qW_get (cy := cy) ha
  rw [qC_Z hk] at hq
  refine va_zald (D := D) G.1 G.2.1 G.2.2.2.2.2.2.1.1 hP q0 2 hq rfl (qI_in h0 hi hN) hd ?_
  rw [qI_nat h0 (by omega)]
  exact kk H locs ls hP hD hS hL
theorem q_aaloadF (G : qG p s m args meth c cc nL own D cy A) {a : Nat} {i : Int} (hd : decode cc pc = .ok (.aaload, 1)) (ha : a ∈ mP M) (hk : mK M a = 9) (h0 : 0 ≤ i) (hi : i < mN M a) (hN : mN M a < 2147483648) (kk : qK p l e R s m args below meth c Q nL D cy A cells slots (pc + 1) lv (va_rf (mR M a i.toNat) :: st) (M)) : qK p l e R s m args below meth c Q nL D cy A cells slots (pc) lv (.int (qI i) :: .ref a :: st) (M) := by
  intro H locs ls hP hD hS hL
  obtain ⟨q0, hq⟩ := qW_get (cy := cy) ha
  rw [qC_F hk] at hq
  refine va_aldq (D := D) G.1 G.2.1 G.2.2.2.2.2.2.1.1 hP q0 3 hq rfl (qI_in h0 hi hN) hd ?_
  rw [qI_nat h0 (by omega)]
  exact kk H locs ls hP hD hS hL
theorem q_aaloadR (G : qG p s m args meth c cc nL own D cy A) {a : Nat} {i : Int} (hd : decode cc pc = .ok (.aaload, 1)) (ha : a ∈ mP M) (hk : mK M a = 10) (h0 : 0 ≤ i) (hi : i < mN M a) (hN : mN M a < 2147483648) (kk : qK p l e R s m args below meth c Q nL D cy A cells slots (pc + 1) lv (va_rf (mR M a i.toNat) :: st) (M)) : qK p l e R s m args below meth c Q nL D cy A cells slots (pc) lv (.int (qI i) :: .ref a :: st) (M) := by
  intro H locs ls hP hD hS hL
  obtain ⟨q0, hq⟩ := qW_get (cy := cy) ha
  rw [qC_R hk] at hq
  refine va_aldq (D := D) G.1 G.2.1 G.2.2.2.2.2.2.1.1 hP q0 4 hq rfl (qI_in h0 hi hN) hd ?_
  rw [qI_nat h0 (by omega)]
  exact kk H locs ls hP hD hS hL
theorem q_iastore (G : qG p s m args meth c cc nL own D cy A) {a : Nat} {i x : Int} (hd : decode cc pc = .ok (.iastore, 1)) (ha : a ∈ mP M) (hk : mK M a = 6) (h0 : 0 ≤ i) (hi : i < mN M a) (hN : mN M a < 2147483648)  (kk : qK p l e R s m args below meth c Q nL D cy A cells slots (pc + 1) lv (st) (sI M a i.toNat x)) : qK p l e R s m args below meth c Q nL D cy A cells slots (pc) lv (.int (qI x) :: .int (qI i) :: .ref a :: st) (M) := by
  intro H locs ls hP hD hS hL
  obtain ⟨q0, hq⟩ := qW_get (cy := cy) ha
  have hq2 := hq
  rw [qC_I hk] at hq
  have hset := qW_set (M' := sI M a i.toNat x) hD ha hq2 rfl (fun b hb => qC_sI hb)
  rw [qC_I (show mK (sI M a i.toNat x) a = 6 from hk)] at hset
  refine va_iast (D := D) G.1 G.2.1 G.2.2.2.2.2.2.1.1 hP hD hS q0 0 hq rfl (qI_in h0 hi hN) hd (fun H1 locs1 h1 h2 h3 => ?_)
  have ef : upd (fun j => qI (mI M a j)) (qI i).toNatClampNeg (qI x) = fun j => qI (mI (sI M a i.toNat x) a j) := by
    rw [qI_nat h0 (by omega)]
    funext j
    by_cases hj : j = i.toNat
    · subst hj; simp [upd, vp_updL, sI, sL, mI, mL, up2]
    · simp [upd, vp_updL, sI, sL, mI, mL, up2, hj]
  rw [ef] at h1 h2
  rw [show mN M a = mN (sI M a i.toNat x) a from rfl] at h1 h2
  rw [hset] at h1 h2
  exact kk H1 locs1 ls h1 h2 h3 hL
theorem q_lastore (G : qG p s m args meth c cc nL own D cy A) {a : Nat} {i x : Int} (hd : decode cc pc = .ok (.lastore, 1)) (ha : a ∈ mP M) (hk : mK M a = 7) (h0 : 0 ≤ i) (hi : i < mN M a) (hN : mN M a < 2147483648)  (kk : qK p l e R s m args below meth c Q nL D cy A cells slots (pc + 1) lv (st) (sL M a i.toNat x)) : qK p l e R s m args below meth c Q nL D cy A cells slots (pc) lv (.long (qL x) :: .int (qI i) :: .ref a :: st) (M) := by
  intro H locs ls hP hD hS hL
  obtain ⟨q0, hq⟩ := qW_get (cy := cy) ha
  have hq2 := hq
  rw [qC_J hk] at hq
  have hset := qW_set (M' := sL M a i.toNat x) hD ha hq2 rfl (fun b hb => qC_sL hb)
  rw [qC_J (show mK (sL M a i.toNat x) a = 7 from hk)] at hset
  refine va_last (D := D) G.1 G.2.1 G.2.2.2.2.2.2.1.1 hP hD hS q0 1 hq rfl (qI_in h0 hi hN) hd (fun H1 locs1 h1 h2 h3 => ?_)
  have ef : vp_updL (fun j => qL (mL M a j)) (qI i).toNatClampNeg (qL x) = fun j => qL (mL (sL M a i.toNat x) a j) := by
    rw [qI_nat h0 (by omega)]
    funext j
    by_cases hj : j = i.toNat
    · subst hj; simp [upd, vp_updL, sI, sL, mI, mL, up2]
    · simp [upd, vp_updL, sI, sL, mI, mL, up2, hj]
  rw [ef] at h1 h2
  rw [show mN M a = mN (sL M a i.toNat x) a from rfl] at h1 h2
  rw [hset] at h1 h2
  exact kk H1 locs1 ls h1 h2 h3 hL
theorem q_bastore (G : qG p s m args meth c cc nL own D cy A) {a : Nat} {i x : Int} (hd : decode cc pc = .ok (.bastore, 1)) (ha : a ∈ mP M) (hk : mK M a = 8) (h0 : 0 ≤ i) (hi : i < mN M a) (hN : mN M a < 2147483648) (hz : vp_nar .boolean (qI x) = qI x) (kk : qK p l e R s m args below meth c Q nL D cy A cells slots (pc + 1) lv (st) (sI M a i.toNat x)) : qK p l e R s m args below meth c Q nL D cy A cells slots (pc) lv (.int (qI x) :: .int (qI i) :: .ref a :: st) (M) := by
  intro H locs ls hP hD hS hL
  obtain ⟨q0, hq⟩ := qW_get (cy := cy) ha
  have hq2 := hq
  rw [qC_Z hk] at hq
  have hset := qW_set (M' := sI M a i.toNat x) hD ha hq2 rfl (fun b hb => qC_sI hb)
  rw [qC_Z (show mK (sI M a i.toNat x) a = 8 from hk)] at hset
  refine va_zast (D := D) G.1 G.2.1 G.2.2.2.2.2.2.1.1 hP hD hS q0 2 hq rfl (qI_in h0 hi hN) hd (fun H1 locs1 h1 h2 h3 => ?_)
  have ef : upd (fun j => qI (mI M a j)) (qI i).toNatClampNeg (qI x) = fun j => qI (mI (sI M a i.toNat x) a j) := by
    rw [qI_nat h0 (by omega)]
    funext j
    by_cases hj : j = i.toNat
    · subst hj; simp [upd, vp_updL, sI, sL, mI, mL, up2]
    · simp [upd, vp_updL, sI, sL, mI, mL, up2, hj]
  rw [hz] at h1 h2
  rw [ef] at h1 h2
  rw [show mN M a = mN (sI M a i.toNat x) a from rfl] at h1 h2
  rw [hset] at h1 h2
  exact kk H1 locs1 ls h1 h2 h3 hL
end QR
end
section
/-! contracts over the memory -/
def qQ (D : va_G) (cy : Nat → ClassId) (P0 : List Nat) (Qv : Option Value → qM → Prop) : Array Value → State → Outcome → State → Prop := fun _ st oc t =>
  (∃ (v : Option Value) (M' : qM), oc = .returned v ∧ Qv v M' ∧ va_P D vwCl (qW cy M') t.heap ∧ va_D (qA P0 st.heap.size) (qW cy M')) ∧ va_F (qA P0 st.heap.size) st t
def qPc (D : va_G) (cy : Nat → ClassId) (As : List Value) (M : qM) (sz : Nat) : Array Value → State → Prop := fun a U =>
  a = As.toArray ∧ U.heap.size = sz ∧ va_P D vwCl (qW cy M) U.heap ∧ va_D (fun _ => True) (qW cy M) ∧ qE D cy (qA (mP M) U.heap.size) U
/-- y, called with As in the memory M, returns as Qv says -/
def qCt (l : Launch) (D : va_G) (cy : Nat → ClassId) (y : MethodName) (bytes : ByteArray) (maxL : Nat) (ret : Option FieldType) (rm : Room) (mc ms : Nat) (As : List Value) (M : qM) (Qv : Option Value → qM → Prop) : Prop :=
  ∀ sz : Nat, Met l y (Cond.code y bytes maxL ret :: qB) rm (qPc D cy As M sz) (qQ D cy (mP M) Qv) mc ms (qA (mP M) sz)
/-- what holds where it throws: the class, and nothing has changed -/
def qXC (D : va_G) (cy : Nat → ClassId) (M : qM) (X : String → Prop) : String → State → State → Prop := fun E st t =>
  X E ∧ va_P D vwCl (qW cy M) t.heap ∧ va_F (qA (mP M) st.heap.size) st t
/-- y, called with As in the memory M, returns as Qv says or throws a class of X, M being as before -/
def qCx (l : Launch) (D : va_G) (cy : Nat → ClassId) (y : MethodName) (bytes : ByteArray) (maxL : Nat) (ret : Option FieldType) (rm : Room) (mc ms : Nat) (As : List Value) (M : qM) (Qv : Option Value → qM → Prop) (X : String → Prop) : Prop :=
  ∀ sz : Nat, vx_Met l y (Cond.code y bytes maxL ret :: qB) rm (qPc D cy As M sz) (qQ D cy (mP M) Qv) (qXC D cy M X) mc ms (qA (mP M) sz)
theorem qPc_blind (D : va_G) (cy : Nat → ClassId) (As : List Value) (M : qM) (sz : Nat) : FrameBlind (qPc D cy As M sz) := fun a U g mk h => ⟨h.1, h.2.1, h.2.2.1, h.2.2.2.1, qE_frame h.2.2.2.2 g mk a⟩
section QC
variable {p : Program} {l : Launch} {e : Env} {R : Room} {s : State} {m : MethodId} {args : Array Value} {below : List Frame} {meth : Method} {c : Code} {Q : State → Prop}
variable {cc : ByteArray} {nL : Nat} {own : String} {D : va_G} {cy : Nat → ClassId} {A : Nat → Prop} {cells slots : Nat} {pc : Nat} {lv lv' : List (Nat × Value)} {st : List Value} {M : qM}
theorem qPre {As : List Value} {H : Heap} {locs : List Loc} (G : qG p s m args meth c cc nL own D cy A) (hP : va_P D vwCl (qW cy M) H) (hD : va_D A (qW cy M)) (hS : va_S A s.heap H locs) (hin : ∀ q ∈ mP M, A q) : ∀ U : State, U.heap = H → s.WarmedH U.vm → qPc D cy As M H.size As.toArray U := by
  intro U hU hW
  refine ⟨rfl, by rw [hU], by rw [hU]; exact hP, hD.weaken (fun _ _ _ _ => trivial), ?_⟩
  refine qE_call G.2.2.2.2.2.2.1 hS hU hW (fun q hq => ?_)
  rcases hq with h | h
  · exact hin q h
  · exact G.2.2.2.2.2.2.2 q (Nat.le_trans hS.1 (by rw [hU] at h; exact h))
theorem qSub {H : Heap} {locs : List Loc} (G : qG p s m args meth c cc nL own D cy A) (hD : va_D A (qW cy M)) (hS : va_S A s.heap H locs) : ∀ q, qA (mP M) H.size q → A q := fun q h => h.elim (fun h => qD_in hD h) (fun h => G.2.2.2.2.2.2.2 q (Nat.le_trans hS.1 h))
theorem qAfter {H : Heap} {locs : List Loc} {ls : Array Slot} {st0 rest : List Value} {mc ms : Nat} {a : Array Value} {Qv : Option Value → qM → Prop} (G : qG p s m args meth c cc nL own D cy A) (hD : va_D A (qW cy M)) (hS : va_S A s.heap H locs) (hL : lv_has ls nL lv)
    (hr : va_Run p l e R s m args below meth c H locs cells slots mc ms (F0 m pc ls st0) rest (qQ D cy (mP M) Qv a) (qA (mP M) H.size))
    (kk : ∀ v M', Qv v M' → qK p l e R s m args below meth c Q nL D cy A (cells + mc) (slots + ms) (pc + 3) lv (v.toList ++ rest) M') :
    W p l e R s m args below meth c H locs cells slots Q (F0 m pc ls st0) := by
  intro T hT X
  obtain ⟨v, st₀, t, T', L, h0, X', hLc, e1, e2, ⟨⟨v', M', hv, hq, hP1, hD1⟩, hz, hk⟩, stp⟩ := hr T hT X
  cases hv
  rw [h0] at hz hk hD1
  have hsub := qSub G hD hS
  have hS1 : va_S A s.heap T'.heap (locs ++ L) := ⟨Nat.le_trans hS.1 (by rw [e1]; exact hz), fun q h1 h2 => by rw [e1, hk q (Nat.lt_of_lt_of_le h1 hS.1) (fun z => h2 (hsub q z))]; exact hS.2.1 q h1 h2, fun q hq => by
    rcases List.mem_append.mp hq with h | h
    · exact hS.2.2 q h
    · exact hsub _ (hLc q h)⟩
  obtain ⟨t2, a1, b1⟩ := kk v M' hq T'.heap (locs ++ L) ls (by rw [e1]; exact hP1) (hD1.weaken (fun _ q _ h => hsub q.1 h)) hS1 hL T' rfl X'
  exact ⟨t2, stp t2 a1, b1⟩
theorem qAfterX {H : Heap} {locs : List Loc} {ls : Array Slot} {st0 rest : List Value} {mc ms : Nat} {a : Array Value} {Qv : Option Value → qM → Prop} {X : String → Prop} (G : qG p s m args meth c cc nL own D cy A) (hD : va_D A (qW cy M)) (hS : va_S A s.heap H locs) (hL : lv_has ls nL lv)
    (hr : vx_Run p l e R s m args below meth c H locs cells slots mc ms (F0 m pc ls st0) rest (qQ D cy (mP M) Qv a) (qXC D cy M X) (qA (mP M) H.size))
    (kx : ∀ (E : String) (ce : Cell) (q : Addr) (H1 : Heap) (locs1 : List Loc), X E → va_P D vwCl (qW cy M) H1 → va_S A s.heap H1 locs1 → H1[q]? = some ce → ce.vm = .none → s.vm.findClass E = some ce.cls → vx_W p l e R s m args below meth c H1 locs1 (cells + mc) (slots + ms) Q (F0 m pc ls rest) q)
    (kk : ∀ v M', Qv v M' → qK p l e R s m args below meth c Q nL D cy A (cells + mc) (slots + ms) (pc + 3) lv (v.toList ++ rest) M') :
    W p l e R s m args below meth c H locs cells slots Q (F0 m pc ls st0) := by
  intro T hT X0
  have hsub := qSub G hD hS
  rcases hr T hT X0 with ⟨v, st₀, t, T', L, h0, X', hLc, e1, e2, ⟨⟨v', M', hv, hq, hP1, hD1⟩, hz, hk⟩, stp⟩ | ⟨q, st₀, t, T', L, E, ce, h0, X', hLc, e1, e2, ⟨hx, hP1, hz, hk⟩, hce, hcv, hcl, stp⟩
  · cases hv
    rw [h0] at hz hk hD1
    have hS1 : va_S A s.heap T'.heap (locs ++ L) := ⟨Nat.le_trans hS.1 (by rw [e1]; exact hz), fun q h1 h2 => by rw [e1, hk q (Nat.lt_of_lt_of_le h1 hS.1) (fun z => h2 (hsub q z))]; exact hS.2.1 q h1 h2, fun q hq => by
      rcases List.mem_append.mp hq with h | h
      · exact hS.2.2 q h
      · exact hsub _ (hLc q h)⟩
    obtain ⟨t2, a1, b1⟩ := kk v M' hq T'.heap (locs ++ L) ls (by rw [e1]; exact hP1) (hD1.weaken (fun _ q _ h => hsub q.1 h)) hS1 hL T' rfl X'
    exact ⟨t2, stp t2 a1, b1⟩
  · rw [h0] at hz hk
    have hS1 : va_S A s.heap T'.heap (locs ++ L) := ⟨Nat.le_trans hS.1 (by rw [e1]; exact hz), fun q h1 h2 => by rw [e1, hk q (Nat.lt_of_lt_of_le h1 hS.1) (fun z => h2 (hsub q z))]; exact hS.2.1 q h1 h2, fun q hq => by
      rcases List.mem_append.mp hq with h | h
      · exact hS.2.2 q h
      · exact hsub _ (hLc q h)⟩
    obtain ⟨t2, a1, b1⟩ := kx E ce q T'.heap (locs ++ L) hx (by rw [e1]; exact hP1) hS1 (by rw [e1]; exact hce) hcv hcl T' rfl X'
    exact ⟨t2, stp.trans a1, b1⟩
/-- the words of a call -/
def qSig (y : MethodName) (n : Nat) : Prop := y.cls ≠ "java/lang/invoke/MethodHandle" ∧ y.cls ≠ "java/lang/invoke/VarHandle" ∧ (parseMethodDescriptor y.desc).map (fun d => d.parameters.length) = some n
def qCV (own : String) (index : Nat) (C : String) (y : MethodName) (bytes : ByteArray) (maxL : Nat) (ret : Option FieldType) (n : Nat) : Prop :=
  (Cond.methodLink own index y ∈ qB ∧ Cond.instanceMethod y ∈ qB ∧ Cond.selects C y y ∈ qB ∧ Cond.initialized C ∈ qB ∧ Cond.code y bytes maxL ret ∈ qB) ∧ y.cls = C ∧ qSig y n
def qCS (own : String) (index : Nat) (y : MethodName) (bytes : ByteArray) (maxL : Nat) (ret : Option FieldType) (n : Nat) : Prop :=
  (Cond.methodLink own index y ∈ qB ∧ Cond.static y ∈ qB ∧ Cond.initialized own ∈ qB ∧ Cond.code y bytes maxL ret ∈ qB) ∧ y.cls = own ∧ qSig y n
def qCSN (own : String) (index : Nat) (y : MethodName) (bytes : ByteArray) (maxL : Nat) (ret : Option FieldType) (n : Nat) : Prop :=
  (∃ host, Cond.methodLinkNest own index y host ∈ qX) ∧ (Cond.static y ∈ qB ∧ Cond.initialized y.cls ∈ qB ∧ Cond.code y bytes maxL ret ∈ qB) ∧ qSig y n
def qCI (own : String) (index : Nat) (y : MethodName) (bytes : ByteArray) (maxL : Nat) (n : Nat) : Prop :=
  (Cond.methodLink own index y ∈ qB ∨ ∃ host, Cond.methodLinkNest own index y host ∈ qX) ∧ (Cond.instanceMethod y ∈ qB ∧ Cond.initialized y.cls ∈ qB ∧ Cond.code y bytes maxL none ∈ qB) ∧ y.name = "<init>" ∧ qSig y n
theorem qGood {y : MethodName} {bytes : ByteArray} {maxL : Nat} {ret : Option FieldType} (h : Cond.code y bytes maxL ret ∈ qB) : ∀ w ∈ Cond.code y bytes maxL ret :: qB, w ∈ qB := fun w hw => (List.mem_cons.mp hw).elim (fun e => e ▸ h) id
theorem q_callV {index ci n b maxL mc ms : Nat} {C : String} {T : u_T} {N : Nat} {y : MethodName} {bytes : ByteArray} {ret : Option FieldType} {rm : Room} {As rest st0 : List Value} {Qv : Option Value → qM → Prop} (G : qG p s m args meth c cc nL own D cy A)
    (hd : decode cc pc = .ok (.invokevirtual index, 3)) (hw : qCV own index C y bytes maxL ret n) (hM : qCt l D cy y bytes maxL ret rm mc ms (.ref b :: As) M Qv) (hb : b ∈ mP M) (hk : mK M b = ci) (hc6 : ci < 6) (hcl : vwCl[ci]? = some (C, T, N))
    (hst : st0 = As.reverse ++ .ref b :: rest) (hn : As.length = n) (hcat : (rest.map fun v => v.category).sum ≤ 8) (hrc : rm.cells = mc) (hrs : rm.slots = ms) (hR : rm.frames + 1 ≤ R.frames ∧ 8 + (maxL + 11) + rm.locals ≤ R.locals) (hf : cells + mc ≤ R.cells ∧ slots + ms ≤ R.slots)
    (kk : ∀ v M', Qv v M' → qK p l e R s m args below meth c Q nL D cy A (cells + mc) (slots + ms) (pc + 3) lv (v.toList ++ rest) M') : qK p l e R s m args below meth c Q nL D cy A cells slots pc lv st0 M := by
  intro H locs ls hP hD hS hL
  obtain ⟨⟨w1, w2, w3, w4, w5⟩, hC, hsig⟩ := hw
  obtain ⟨q0, hq⟩ := qW_get (cy := cy) hb
  rw [qC_o hk hc6] at hq
  refine qAfter G hD hS hL (va_runV (As := As) (rest := rest) (b := b) (C := C) (Ts := qB) ⟨G.1, G.2.1, G.2.2.1, G.2.2.2.1, G.2.2.2.2.1⟩ (hM H.size) (cwV n G.2.2.2.2.1 (qB_in ?_) rfl hrc hrs ⟨hC, hsig⟩ hR) ⟨qPc_blind _ _ _ _ _, ?_, qPre G hP hD hS (fun q h => qD_in hD h)⟩ rfl hn hL.1 hst (lv_room hcat) hd hf) kk
  · intro w h
    unfold wsV at h
    simp only [List.cons_append, List.nil_append, List.mem_cons] at h
    rcases h with rfl | rfl | rfl | rfl | rfl | h
    · exact w1
    · exact w2
    · exact w3
    · exact w4
    · exact w5
    · exact h
  · exact va_recv G.2.2.2.2.2.2.1.1 hP hcl hq
theorem q_callVX {index ci n b maxL mc ms : Nat} {C : String} {T : u_T} {N : Nat} {y : MethodName} {bytes : ByteArray} {ret : Option FieldType} {rm : Room} {As rest st0 : List Value} {Qv : Option Value → qM → Prop} {X : String → Prop} (G : qG p s m args meth c cc nL own D cy A)
    (hd : decode cc pc = .ok (.invokevirtual index, 3)) (hw : qCV own index C y bytes maxL ret n) (hM : qCx l D cy y bytes maxL ret rm mc ms (.ref b :: As) M Qv X) (hb : b ∈ mP M) (hk : mK M b = ci) (hc6 : ci < 6) (hcl : vwCl[ci]? = some (C, T, N))
    (hst : st0 = As.reverse ++ .ref b :: rest) (hn : As.length = n) (hcat : (rest.map fun v => v.category).sum ≤ 8) (hrc : rm.cells = mc) (hrs : rm.slots = ms) (hR : rm.frames + 1 ≤ R.frames ∧ 8 + (maxL + 11) + rm.locals ≤ R.locals) (hf : cells + mc ≤ R.cells ∧ slots + ms ≤ R.slots)
    (kx : ∀ (E : String) (ce : Cell) (q : Addr) (H1 : Heap) (locs1 : List Loc) (ls : Array Slot), X E → va_P D vwCl (qW cy M) H1 → va_D A (qW cy M) → va_S A s.heap H1 locs1 → lv_has ls nL lv → H1[q]? = some ce → ce.vm = .none → s.vm.findClass E = some ce.cls → vx_W p l e R s m args below meth c H1 locs1 (cells + mc) (slots + ms) Q (F0 m pc ls rest) q)
    (kk : ∀ v M', Qv v M' → qK p l e R s m args below meth c Q nL D cy A (cells + mc) (slots + ms) (pc + 3) lv (v.toList ++ rest) M') : qK p l e R s m args below meth c Q nL D cy A cells slots pc lv st0 M := by
  intro H locs ls hP hD hS hL
  obtain ⟨⟨w1, w2, w3, w4, w5⟩, hC, hsig⟩ := hw
  obtain ⟨q0, hq⟩ := qW_get (cy := cy) hb
  rw [qC_o hk hc6] at hq
  refine qAfterX G hD hS hL (vx_runV (As := As) (rest := rest) (b := b) (C := C) (Ts := qB) ⟨G.1, G.2.1, G.2.2.1, G.2.2.2.1, G.2.2.2.2.1⟩ (hM H.size) (cwV n G.2.2.2.2.1 (qB_in ?_) rfl hrc hrs ⟨hC, hsig⟩ hR) ⟨qPc_blind _ _ _ _ _, ?_, qPre G hP hD hS (fun q h => qD_in hD h)⟩ rfl hn hL.1 hst (lv_room hcat) hd hf) (fun E ce q H1 locs1 hx h1 h2 h3 h4 h5 => kx E ce q H1 locs1 ls hx h1 hD h2 hL h3 h4 h5) kk
  · intro w h
    unfold wsV at h
    simp only [List.cons_append, List.nil_append, List.mem_cons] at h
    rcases h with rfl | rfl | rfl | rfl | rfl | h
    · exact w1
    · exact w2
    · exact w3
    · exact w4
    · exact w5
    · exact h
  · exact va_recv G.2.2.2.2.2.2.1.1 hP hcl hq
theorem q_callS {index n maxL mc ms : Nat} {y : MethodName} {bytes : ByteArray} {ret : Option FieldType} {rm : Room} {As rest st0 : List Value} {Qv : Option Value → qM → Prop} (G : qG p s m args meth c cc nL own D cy A)
    (hd : decode cc pc = .ok (.invokestatic index, 3)) (hw : qCS own index y bytes maxL ret n) (hM : qCt l D cy y bytes maxL ret rm mc ms As M Qv)
    (hst : st0 = As.reverse ++ rest) (hn : As.length = n) (hcat : (rest.map fun v => v.category).sum ≤ 8) (hrc : rm.cells = mc) (hrs : rm.slots = ms) (hR : rm.frames + 1 ≤ R.frames ∧ 8 + (maxL + 11) + rm.locals ≤ R.locals) (hf : cells + mc ≤ R.cells ∧ slots + ms ≤ R.slots)
    (kk : ∀ v M', Qv v M' → qK p l e R s m args below meth c Q nL D cy A (cells + mc) (slots + ms) (pc + 3) lv (v.toList ++ rest) M') : qK p l e R s m args below meth c Q nL D cy A cells slots pc lv st0 M := by
  intro H locs ls hP hD hS hL
  obtain ⟨⟨w1, w2, w3, w4⟩, hC, hsig⟩ := hw
  refine qAfter G hD hS hL (va_runS (As := As) (rest := rest) (Ts := qB) ⟨G.1, G.2.1, G.2.2.1, G.2.2.2.1, G.2.2.2.2.1⟩ (hM H.size) (cwS n G.2.2.2.2.1 (qB_in ?_) rfl hrc hrs ⟨hC, hsig⟩ hR) ⟨qPc_blind _ _ _ _ _, qPre G hP hD hS (fun q h => qD_in hD h)⟩ rfl hn hL.1 hst (lv_room hcat) hd hf) kk
  intro w h
  unfold wsS at h
  simp only [List.cons_append, List.nil_append, List.mem_cons] at h
  rcases h with rfl | rfl | rfl | rfl | h
  · exact w1
  · exact w2
  · exact w3
  · exact w4
  · exact h
theorem q_callSX {index n maxL mc ms : Nat} {y : MethodName} {bytes : ByteArray} {ret : Option FieldType} {rm : Room} {As rest st0 : List Value} {Qv : Option Value → qM → Prop} {X : String → Prop} (G : qG p s m args meth c cc nL own D cy A)
    (hd : decode cc pc = .ok (.invokestatic index, 3)) (hw : qCS own index y bytes maxL ret n) (hM : qCx l D cy y bytes maxL ret rm mc ms As M Qv X)
    (hst : st0 = As.reverse ++ rest) (hn : As.length = n) (hcat : (rest.map fun v => v.category).sum ≤ 8) (hrc : rm.cells = mc) (hrs : rm.slots = ms) (hR : rm.frames + 1 ≤ R.frames ∧ 8 + (maxL + 11) + rm.locals ≤ R.locals) (hf : cells + mc ≤ R.cells ∧ slots + ms ≤ R.slots)
    (kx : ∀ (E : String) (ce : Cell) (q : Addr) (H1 : Heap) (locs1 : List Loc) (ls : Array Slot), X E → va_P D vwCl (qW cy M) H1 → va_D A (qW cy M) → va_S A s.heap H1 locs1 → lv_has ls nL lv → H1[q]? = some ce → ce.vm = .none → s.vm.findClass E = some ce.cls → vx_W p l e R s m args below meth c H1 locs1 (cells + mc) (slots + ms) Q (F0 m pc ls rest) q)
    (kk : ∀ v M', Qv v M' → qK p l e R s m args below meth c Q nL D cy A (cells + mc) (slots + ms) (pc + 3) lv (v.toList ++ rest) M') : qK p l e R s m args below meth c Q nL D cy A cells slots pc lv st0 M := by
  intro H locs ls hP hD hS hL
  obtain ⟨⟨w1, w2, w3, w4⟩, hC, hsig⟩ := hw
  refine qAfterX G hD hS hL (vx_runS (As := As) (rest := rest) (Ts := qB) ⟨G.1, G.2.1, G.2.2.1, G.2.2.2.1, G.2.2.2.2.1⟩ (hM H.size) (cwS n G.2.2.2.2.1 (qB_in ?_) rfl hrc hrs ⟨hC, hsig⟩ hR) ⟨qPc_blind _ _ _ _ _, qPre G hP hD hS (fun q h => qD_in hD h)⟩ rfl hn hL.1 hst (lv_room hcat) hd hf) (fun E ce q H1 locs1 hx h1 h2 h3 h4 h5 => kx E ce q H1 locs1 ls hx h1 hD h2 hL h3 h4 h5) kk
  intro w h
  unfold wsS at h
  simp only [List.cons_append, List.nil_append, List.mem_cons] at h
  rcases h with rfl | rfl | rfl | rfl | h
  · exact w1
  · exact w2
  · exact w3
  · exact w4
  · exact h
theorem q_callSN {index n maxL mc ms : Nat} {y : MethodName} {bytes : ByteArray} {ret : Option FieldType} {rm : Room} {As rest st0 : List Value} {Qv : Option Value → qM → Prop} (G : qG p s m args meth c cc nL own D cy A)
    (hd : decode cc pc = .ok (.invokestatic index, 3)) (hw : qCSN own index y bytes maxL ret n) (hM : qCt l D cy y bytes maxL ret rm mc ms As M Qv)
    (hst : st0 = As.reverse ++ rest) (hn : As.length = n) (hcat : (rest.map fun v => v.category).sum ≤ 8) (hrc : rm.cells = mc) (hrs : rm.slots = ms) (hR : rm.frames + 1 ≤ R.frames ∧ 8 + (maxL + 11) + rm.locals ≤ R.locals) (hf : cells + mc ≤ R.cells ∧ slots + ms ≤ R.slots)
    (kk : ∀ v M', Qv v M' → qK p l e R s m args below meth c Q nL D cy A (cells + mc) (slots + ms) (pc + 3) lv (v.toList ++ rest) M') : qK p l e R s m args below meth c Q nL D cy A cells slots pc lv st0 M := by
  intro H locs ls hP hD hS hL
  obtain ⟨⟨host, w1⟩, ⟨w2, w3, w4⟩, hsig⟩ := hw
  exact qAfter G hD hS hL (va_runSN (As := As) (rest := rest) (Ts := qB) (host := host) ⟨G.1, G.2.1, G.2.2.1, G.2.2.2.1, G.2.2.2.2.1⟩ (hM H.size) ⟨va_cnB n G.2.2.2.2.1 (qB_in (qGood w4)) rfl hrc hrs (G.2.2.2.2.2.2.1.2.1 _ w1) (G.2.2.2.2.1 _ w3) hsig hR, G.2.2.2.2.1 _ w2, trivial⟩ ⟨qPc_blind _ _ _ _ _, qPre G hP hD hS (fun q h => qD_in hD h)⟩ rfl hn hL.1 hst (lv_room hcat) hd hf) kk
theorem q_callI {index n b maxL mc ms : Nat} {y : MethodName} {bytes : ByteArray} {rm : Room} {As rest st0 : List Value} {Qv : Option Value → qM → Prop} (G : qG p s m args meth c cc nL own D cy A)
    (hd : decode cc pc = .ok (.invokespecial index, 3)) (hw : qCI own index y bytes maxL n) (hM : qCt l D cy y bytes maxL none rm mc ms (.ref b :: As) M Qv)
    (hst : st0 = As.reverse ++ .ref b :: rest) (hn : As.length = n) (hcat : (rest.map fun v => v.category).sum ≤ 8) (hrc : rm.cells = mc) (hrs : rm.slots = ms) (hR : rm.frames + 1 ≤ R.frames ∧ 8 + (maxL + 11) + rm.locals ≤ R.locals) (hf : cells + mc ≤ R.cells ∧ slots + ms ≤ R.slots)
    (kk : ∀ v M', Qv v M' → qK p l e R s m args below meth c Q nL D cy A (cells + mc) (slots + ms) (pc + 3) lv (v.toList ++ rest) M') : qK p l e R s m args below meth c Q nL D cy A cells slots pc lv st0 M := by
  intro H locs ls hP hD hS hL
  obtain ⟨w1, ⟨w2, w3, w4⟩, hnm, hsig⟩ := hw
  rcases w1 with w1 | ⟨host, w1⟩
  · exact qAfter G hD hS hL (va_runI (As := As) (rest := rest) (b := b) (Ts := qB) ⟨G.1, G.2.1, G.2.2.1, G.2.2.2.1, G.2.2.2.2.1⟩ (hM H.size) (cwI n G.2.2.2.2.1 (qB_in (qGood w4)) rfl hrc hrs (G.2.2.2.2.1 _ w3) (G.2.2.2.2.1 _ w1) (G.2.2.2.2.1 _ w2) hnm hsig hR) ⟨qPc_blind _ _ _ _ _, qPre G hP hD hS (fun q h => qD_in hD h)⟩ rfl hn hL.1 hst (lv_room hcat) hd hf) kk
  · exact qAfter G hD hS hL (va_runIN (As := As) (rest := rest) (b := b) (Ts := qB) (host := host) ⟨G.1, G.2.1, G.2.2.1, G.2.2.2.1, G.2.2.2.2.1⟩ (hM H.size) ⟨va_cnB n G.2.2.2.2.1 (qB_in (qGood w4)) rfl hrc hrs (G.2.2.2.2.2.2.1.2.1 _ w1) (G.2.2.2.2.1 _ w3) hsig hR, hnm, G.2.2.2.2.1 _ w2⟩ ⟨qPc_blind _ _ _ _ _, qPre G hP hD hS (fun q h => qD_in hD h)⟩ rfl hn hL.1 hst (lv_room hcat) hd hf) kk
/-! returns -/
theorem qEnd {P0 : List Nat} {Qv : Option Value → qM → Prop} {H : Heap} {locs : List Loc} {v : Option Value} (hP : va_P D vwCl (qW cy M) H) (hD : va_D (qA P0 s.heap.size) (qW cy M)) (hS : va_S (qA P0 s.heap.size) s.heap H locs) (hq : Qv v M) : ∀ t : State, t.heap = H → s.WarmedH t.vm → qQ D cy P0 Qv args s (.returned v) t := fun t ht _ =>
  ⟨⟨v, M, rfl, hq, by rw [ht]; exact hP, hD⟩, hS.F ht⟩
variable {P0 : List Nat} {Qv : Option Value → qM → Prop} {XC : String → State → State → Prop} {mc ms : Nat}
theorem q_vret (G : qG p s m args meth c cc nL own D cy (qA P0 s.heap.size)) (hd : decode cc pc = .ok (.return_, 1)) (hr : meth.sig.returnType = none) (hc : cells ≤ mc) (hs : slots ≤ ms) (hq : Qv none M) : qK p l e R s m args below meth c (MQ below (qQ D cy P0 Qv) args s mc ms (qA P0 s.heap.size)) nL D cy (qA P0 s.heap.size) cells slots pc lv [] M := by
  intro H locs ls hP hD hS hL
  exact W.widen hc hs (W.vret G.1 G.2.1 hr (qEnd hP hD hS hq) hS.2.2 hd G.2.2.2.2.2.1)
theorem q_iret {x : Int32} (G : qG p s m args meth c cc nL own D cy (qA P0 s.heap.size)) (hd : decode cc pc = .ok (.ireturn, 1)) (hr : meth.sig.returnType = some .int) (hc : cells ≤ mc) (hs : slots ≤ ms) (hq : Qv (some (.int x)) M) : qK p l e R s m args below meth c (MQ below (qQ D cy P0 Qv) args s mc ms (qA P0 s.heap.size)) nL D cy (qA P0 s.heap.size) cells slots pc lv [.int x] M := by
  intro H locs ls hP hD hS hL
  exact W.widen hc hs (W.iret G.1 G.2.1 hr (qEnd hP hD hS hq) hS.2.2 hd G.2.2.2.2.2.1)
theorem q_zret {x : Int32} (G : qG p s m args meth c cc nL own D cy (qA P0 s.heap.size)) (hd : decode cc pc = .ok (.ireturn, 1)) (hr : meth.sig.returnType = some .boolean) (hn : narrow .boolean (.int x) = .int x) (hc : cells ≤ mc) (hs : slots ≤ ms) (hq : Qv (some (.int x)) M) : qK p l e R s m args below meth c (MQ below (qQ D cy P0 Qv) args s mc ms (qA P0 s.heap.size)) nL D cy (qA P0 s.heap.size) cells slots pc lv [.int x] M := by
  intro H locs ls hP hD hS hL
  exact W.widen hc hs (W.zret G.1 G.2.1 hr hn (qEnd hP hD hS hq) hS.2.2 hd G.2.2.2.2.2.1)
theorem q_lret {x : Int64} (G : qG p s m args meth c cc nL own D cy (qA P0 s.heap.size)) (hd : decode cc pc = .ok (.lreturn, 1)) (hr : meth.sig.returnType = some .long) (hc : cells ≤ mc) (hs : slots ≤ ms) (hq : Qv (some (.long x)) M) : qK p l e R s m args below meth c (MQ below (qQ D cy P0 Qv) args s mc ms (qA P0 s.heap.size)) nL D cy (qA P0 s.heap.size) cells slots pc lv [.long x] M := by
  intro H locs ls hP hD hS hL
  exact W.widen hc hs (W.lret G.1 G.2.1 hr (qEnd hP hD hS hq) hS.2.2 hd G.2.2.2.2.2.1)
theorem q_aret {a : Nat} {n : String} (G : qG p s m args meth c cc nL own D cy (qA P0 s.heap.size)) (hd : decode cc pc = .ok (.areturn, 1)) (hr : meth.sig.returnType = some (.object n)) (hc : cells ≤ mc) (hs : slots ≤ ms) (hq : Qv (some (.ref a)) M) : qK p l e R s m args below meth c (MQ below (qQ D cy P0 Qv) args s mc ms (qA P0 s.heap.size)) nL D cy (qA P0 s.heap.size) cells slots pc lv [.ref a] M := by
  intro H locs ls hP hD hS hL
  exact W.widen hc hs (W.aret G.1 G.2.1 hr (Or.inl ⟨n, rfl⟩) (Or.inr ⟨a, rfl⟩) (qEnd hP hD hS hq) hS.2.2 hd G.2.2.2.2.2.1)
/-- in a method that may throw -/
theorem q_retX {st : List Value} (k : qK p l e R s m args below meth c (MQ below (qQ D cy P0 Qv) args s mc ms (qA P0 s.heap.size)) nL D cy (qA P0 s.heap.size) cells slots pc lv st M) : qK p l e R s m args below meth c (vx_MQ below (qQ D cy P0 Qv) XC args s mc ms (qA P0 s.heap.size)) nL D cy (qA P0 s.heap.size) cells slots pc lv st M := fun H locs ls hP hD hS hL => vx_ret (k H locs ls hP hD hS hL)
end QC
section QB
variable {l : Launch} {D : va_G} {cy : Nat → ClassId} {y : MethodName} {bytes : ByteArray} {maxL : Nat} {ret : Option FieldType} {rm : Room} {mc ms : Nat} {As : List Value} {M : qM} {Qv : Option Value → qM → Prop} {X : String → Prop}
/-- a contract, by its body -/
theorem qCt_of {lv0 : List (Nat × Value)} (hy : plainName y.cls = true) (hlv : lv_args 0 As = lv0) (hn : (lg_sl As).length ≤ maxL)
    (body : ∀ (p : Program) (e : Env) (s : State) (m : MethodId) (args : Array Value) (below : List Frame) (meth : Method) (c : Code), qG p s m args meth c bytes maxL y.cls D cy (qA (mP M) s.heap.size) → meth.name = y.name → meth.sig.returnType = ret →
      qK p l e rm s m args below meth c (MQ below (qQ D cy (mP M) Qv) args s mc ms (qA (mP M) s.heap.size)) maxL D cy (qA (mP M) s.heap.size) 0 0 0 lv0 [] M) : qCt l D cy y bytes maxL ret rm mc ms As M Qv := by
  intro sz
  refine Met.ofW (cc := bytes) (maxL := maxL) (ret := ret) hy rfl ?_
  intro p e s m args below meth c s₁ B hml hv
  obtain ⟨ha, hsz, hP, hD, hE⟩ := hv
  subst ha
  subst hsz
  have hts := atoms_spec (ws := Cond.code y bytes maxL ret :: qB) B.pre
  have G : qG p s m As.toArray meth c bytes maxL y.cls D cy (qA (mP M) s.heap.size) := ⟨B.exec, B.bytes, hml, findClass_of_methodNamed B.named, fun w h => hts w (List.mem_cons_of_mem _ h), B.notSynchronized, hE, fun q h => Or.inr h⟩
  have hl := lv_entry As (n := maxL) hn
  rw [lg_entry_eq]
  rw [hlv] at hl
  exact body p e s m As.toArray below meth c G (name_of_methodNamed B.named B.method).1 B.returns s.heap [] _ hP (qD_self hD) va_S.rf hl
theorem qCx_of {lv0 : List (Nat × Value)} (hy : plainName y.cls = true) (hlv : lv_args 0 As = lv0) (hn : (lg_sl As).length ≤ maxL)
    (body : ∀ (p : Program) (e : Env) (s : State) (m : MethodId) (args : Array Value) (below : List Frame) (meth : Method) (c : Code), qG p s m args meth c bytes maxL y.cls D cy (qA (mP M) s.heap.size) → (∀ x ∈ c.exceptionTable.toList, False) → meth.sig.returnType = ret →
      qK p l e rm s m args below meth c (vx_MQ below (qQ D cy (mP M) Qv) (qXC D cy M X) args s mc ms (qA (mP M) s.heap.size)) maxL D cy (qA (mP M) s.heap.size) 0 0 0 lv0 [] M) : qCx l D cy y bytes maxL ret rm mc ms As M Qv X := by
  intro sz
  refine vx_ofW (cc := bytes) (maxL := maxL) (ret := ret) hy rfl ?_
  intro p e s m args below meth c s₁ B hml htab hv
  obtain ⟨ha, hsz, hP, hD, hE⟩ := hv
  subst ha
  subst hsz
  have hts := atoms_spec (ws := Cond.code y bytes maxL ret :: qB) B.pre
  have G : qG p s m As.toArray meth c bytes maxL y.cls D cy (qA (mP M) s.heap.size) := ⟨B.exec, B.bytes, hml, findClass_of_methodNamed B.named, fun w h => hts w (List.mem_cons_of_mem _ h), B.notSynchronized, hE, fun q h => Or.inr h⟩
  have hl := lv_entry As (n := maxL) hn
  rw [lg_entry_eq]
  rw [hlv] at hl
  exact body p e s m As.toArray below meth c G htab B.returns s.heap [] _ hP (qD_self hD) va_S.rf hl
/-- a weaker end -/
theorem qCt_post {Qv' : Option Value → qM → Prop} (h : qCt l D cy y bytes maxL ret rm mc ms As M Qv) (hq : ∀ v M', Qv v M' → Qv' v M') : qCt l D cy y bytes maxL ret rm mc ms As M Qv' := by
  intro sz p e ha hc hk s m args below hf happ hpre htr
  obtain ⟨k, o, h1, h2, h3, ⟨⟨v, M', e1, e2, e3⟩, hF⟩, h5⟩ := h sz p e ha hc hk s m args below hf happ hpre htr
  exact ⟨k, o, h1, h2, h3, ⟨⟨v, M', e1, hq v M' e2, e3⟩, hF⟩, h5⟩
end QB
end
section
theorem cin_0 : ∀ w ∈ u_ws RX0 TX0 3, w ∈ qB := by decide +kernel
theorem cin_1 : ∀ w ∈ u_ws RX1 TX1 3, w ∈ qB := by decide +kernel
theorem cin_2 : ∀ w ∈ u_ws RX2 TX2 10, w ∈ qB := by decide +kernel
theorem cin_3 : ∀ w ∈ u_ws RX3 TX3 9, w ∈ qB := by decide +kernel
theorem cin_4 : ∀ w ∈ u_ws RX4 TX4 7, w ∈ qB := by decide +kernel
theorem cin_5 : ∀ w ∈ u_ws RX5 TX5 12, w ∈ qB := by decide +kernel
theorem nf_0_0 {α : Prop} : ∀ (C : String) (T : u_T) (N : Nat), vwCl[0]? = some (C, T, N) → (T 0).2.2.2 = true → α := fun C T N h h2 => by cases h; exact absurd h2 (by decide)
theorem nf_0_1 {α : Prop} : ∀ (C : String) (T : u_T) (N : Nat), vwCl[0]? = some (C, T, N) → (T 1).2.2.2 = true → α := fun C T N h h2 => by cases h; exact absurd h2 (by decide)
theorem nf_0_2 {α : Prop} : ∀ (C : String) (T : u_T) (N : Nat), vwCl[0]? = some (C, T, N) → (T 2).2.2.2 = true → α := fun C T N h h2 => by cases h; exact absurd h2 (by decide)
theorem nf_1_0 {α : Prop} : ∀ (C : String) (T : u_T) (N : Nat), vwCl[1]? = some (C, T, N) → (T 0).2.2.2 = true → α := fun C T N h h2 => by cases h; exact absurd h2 (by decide)
theorem nf_1_1 {α : Prop} : ∀ (C : String) (T : u_T) (N : Nat), vwCl[1]? = some (C, T, N) → (T 1).2.2.2 = true → α := fun C T N h h2 => by cases h; exact absurd h2 (by decide)
theorem nf_1_2 {α : Prop} : ∀ (C : String) (T : u_T) (N : Nat), vwCl[1]? = some (C, T, N) → (T 2).2.2.2 = true → α := fun C T N h h2 => by cases h; exact absurd h2 (by decide)
theorem nf_2_0 {α : Prop} : ∀ (C : String) (T : u_T) (N : Nat), vwCl[2]? = some (C, T, N) → (T 0).2.2.2 = true → α := fun C T N h h2 => by cases h; exact absurd h2 (by decide)
theorem nf_3_0 {α : Prop} : ∀ (C : String) (T : u_T) (N : Nat), vwCl[3]? = some (C, T, N) → (T 0).2.2.2 = true → α := fun C T N h h2 => by cases h; exact absurd h2 (by decide)
theorem nf_3_1 {α : Prop} : ∀ (C : String) (T : u_T) (N : Nat), vwCl[3]? = some (C, T, N) → (T 1).2.2.2 = true → α := fun C T N h h2 => by cases h; exact absurd h2 (by decide)
theorem nf_3_2 {α : Prop} : ∀ (C : String) (T : u_T) (N : Nat), vwCl[3]? = some (C, T, N) → (T 2).2.2.2 = true → α := fun C T N h h2 => by cases h; exact absurd h2 (by decide)
theorem nf_3_3 {α : Prop} : ∀ (C : String) (T : u_T) (N : Nat), vwCl[3]? = some (C, T, N) → (T 3).2.2.2 = true → α := fun C T N h h2 => by cases h; exact absurd h2 (by decide)
theorem nf_3_4 {α : Prop} : ∀ (C : String) (T : u_T) (N : Nat), vwCl[3]? = some (C, T, N) → (T 4).2.2.2 = true → α := fun C T N h h2 => by cases h; exact absurd h2 (by decide)
theorem nf_3_5 {α : Prop} : ∀ (C : String) (T : u_T) (N : Nat), vwCl[3]? = some (C, T, N) → (T 5).2.2.2 = true → α := fun C T N h h2 => by cases h; exact absurd h2 (by decide)
theorem nf_4_4 {α : Prop} : ∀ (C : String) (T : u_T) (N : Nat), vwCl[4]? = some (C, T, N) → (T 4).2.2.2 = true → α := fun C T N h h2 => by cases h; exact absurd h2 (by decide)
theorem nf_4_5 {α : Prop} : ∀ (C : String) (T : u_T) (N : Nat), vwCl[4]? = some (C, T, N) → (T 5).2.2.2 = true → α := fun C T N h h2 => by cases h; exact absurd h2 (by decide)
theorem nf_4_6 {α : Prop} : ∀ (C : String) (T : u_T) (N : Nat), vwCl[4]? = some (C, T, N) → (T 6).2.2.2 = true → α := fun C T N h h2 => by cases h; exact absurd h2 (by decide)
theorem nf_5_0 {α : Prop} : ∀ (C : String) (T : u_T) (N : Nat), vwCl[5]? = some (C, T, N) → (T 0).2.2.2 = true → α := fun C T N h h2 => by cases h; exact absurd h2 (by decide)
theorem nf_5_1 {α : Prop} : ∀ (C : String) (T : u_T) (N : Nat), vwCl[5]? = some (C, T, N) → (T 1).2.2.2 = true → α := fun C T N h h2 => by cases h; exact absurd h2 (by decide)
theorem nf_5_6 {α : Prop} : ∀ (C : String) (T : u_T) (N : Nat), vwCl[5]? = some (C, T, N) → (T 6).2.2.2 = true → α := fun C T N h h2 => by cases h; exact absurd h2 (by decide)
theorem nf_5_7 {α : Prop} : ∀ (C : String) (T : u_T) (N : Nat), vwCl[5]? = some (C, T, N) → (T 7).2.2.2 = true → α := fun C T N h h2 => by cases h; exact absurd h2 (by decide)
theorem nf_5_9 {α : Prop} : ∀ (C : String) (T : u_T) (N : Nat), vwCl[5]? = some (C, T, N) → (T 9).2.2.2 = true → α := fun C T N h h2 => by cases h; exact absurd h2 (by decide)
theorem nf_5_10 {α : Prop} : ∀ (C : String) (T : u_T) (N : Nat), vwCl[5]? = some (C, T, N) → (T 10).2.2.2 = true → α := fun C T N h h2 => by cases h; exact absurd h2 (by decide)
theorem nf_5_11 {α : Prop} : ∀ (C : String) (T : u_T) (N : Nat), vwCl[5]? = some (C, T, N) → (T 11).2.2.2 = true → α := fun C T N h h2 => by cases h; exact absurd h2 (by decide)
theorem cw_L_74 : qCI RL 74 yX4_init cX4_init 2 0 := ⟨Or.inl tw_17, ⟨tw_18, tw_1, tw_19⟩, rfl, ⟨by decide +kernel, by decide +kernel, by decide +kernel⟩⟩
theorem cw_X4_9 : qCI RX4 9 yX2_init cX2_init 1 0 := ⟨Or.inl tw_25, ⟨tw_26, tw_2, tw_27⟩, rfl, ⟨by decide +kernel, by decide +kernel, by decide +kernel⟩⟩
theorem cw_X2_17 : qCI RX2 17 yX1_init cX1_init 1 0 := ⟨Or.inl tw_31, ⟨tw_32, tw_3, tw_33⟩, rfl, ⟨by decide +kernel, by decide +kernel, by decide +kernel⟩⟩
theorem fl_X1_7 : qFL RX1 7 1 0 := ⟨RX1, TX1, 3, rfl, by decide, cin_1, Or.inl tw_35⟩
theorem pl_X1_7 (x : Int64) : qPL RX1 7 1 0 (.long x) := ⟨RX1, TX1, 3, tyX1, tyX1 0, rfl, by decide, cin_1, tyX1_ok, nmX1, tyX1_ok 0 (by decide), rfl, rfl, Or.inl ⟨rfl, Or.inl tw_35⟩⟩
theorem fl_X2_60 : qFL RX2 60 1 0 := ⟨RX1, TX1, 3, rfl, by decide, cin_1, Or.inr ⟨"SquaringClock", qX_i 36 (by decide +kernel) (by decide +kernel)⟩⟩
theorem pl_X2_60 (x : Int64) : qPL RX2 60 1 0 (.long x) := ⟨RX1, TX1, 3, tyX1, tyX1 0, rfl, by decide, cin_1, tyX1_ok, nmX1, tyX1_ok 0 (by decide), rfl, rfl, Or.inl ⟨rfl, Or.inr ⟨"SquaringClock", qX_i 36 (by decide +kernel) (by decide +kernel)⟩⟩⟩
theorem fl_X4_243 : qFL RX4 243 1 0 := ⟨RX1, TX1, 3, rfl, by decide, cin_1, Or.inr ⟨"SquaringClock", qX_i 37 (by decide +kernel) (by decide +kernel)⟩⟩
theorem pl_X4_243 (x : Int64) : qPL RX4 243 1 0 (.long x) := ⟨RX1, TX1, 3, tyX1, tyX1 0, rfl, by decide, cin_1, tyX1_ok, nmX1, tyX1_ok 0 (by decide), rfl, rfl, Or.inl ⟨rfl, Or.inr ⟨"SquaringClock", qX_i 37 (by decide +kernel) (by decide +kernel)⟩⟩⟩
theorem fl_X1_13 : qFL RX1 13 1 1 := ⟨RX1, TX1, 3, rfl, by decide, cin_1, Or.inl tw_38⟩
theorem pl_X1_13 (x : Int64) : qPL RX1 13 1 1 (.long x) := ⟨RX1, TX1, 3, tyX1, tyX1 1, rfl, by decide, cin_1, tyX1_ok, nmX1, tyX1_ok 1 (by decide), rfl, rfl, Or.inl ⟨rfl, Or.inl tw_38⟩⟩
theorem fl_X2_64 : qFL RX2 64 1 1 := ⟨RX1, TX1, 3, rfl, by decide, cin_1, Or.inr ⟨"SquaringClock", qX_i 39 (by decide +kernel) (by decide +kernel)⟩⟩
theorem pl_X2_64 (x : Int64) : qPL RX2 64 1 1 (.long x) := ⟨RX1, TX1, 3, tyX1, tyX1 1, rfl, by decide, cin_1, tyX1_ok, nmX1, tyX1_ok 1 (by decide), rfl, rfl, Or.inl ⟨rfl, Or.inr ⟨"SquaringClock", qX_i 39 (by decide +kernel) (by decide +kernel)⟩⟩⟩
theorem fl_X4_247 : qFL RX4 247 1 1 := ⟨RX1, TX1, 3, rfl, by decide, cin_1, Or.inr ⟨"SquaringClock", qX_i 40 (by decide +kernel) (by decide +kernel)⟩⟩
theorem pl_X4_247 (x : Int64) : qPL RX4 247 1 1 (.long x) := ⟨RX1, TX1, 3, tyX1, tyX1 1, rfl, by decide, cin_1, tyX1_ok, nmX1, tyX1_ok 1 (by decide), rfl, rfl, Or.inl ⟨rfl, Or.inr ⟨"SquaringClock", qX_i 40 (by decide +kernel) (by decide +kernel)⟩⟩⟩
theorem fl_X1_16 : qFL RX1 16 1 2 := ⟨RX1, TX1, 3, rfl, by decide, cin_1, Or.inl tw_41⟩
theorem pl_X1_16 (x : Int64) : qPL RX1 16 1 2 (.long x) := ⟨RX1, TX1, 3, tyX1, tyX1 2, rfl, by decide, cin_1, tyX1_ok, nmX1, tyX1_ok 2 (by decide), rfl, rfl, Or.inl ⟨rfl, Or.inl tw_41⟩⟩
theorem fl_X2_73 : qFL RX2 73 1 2 := ⟨RX1, TX1, 3, rfl, by decide, cin_1, Or.inr ⟨"SquaringClock", qX_i 42 (by decide +kernel) (by decide +kernel)⟩⟩
theorem pl_X2_73 (x : Int64) : qPL RX2 73 1 2 (.long x) := ⟨RX1, TX1, 3, tyX1, tyX1 2, rfl, by decide, cin_1, tyX1_ok, nmX1, tyX1_ok 2 (by decide), rfl, rfl, Or.inl ⟨rfl, Or.inr ⟨"SquaringClock", qX_i 42 (by decide +kernel) (by decide +kernel)⟩⟩⟩
theorem cw_X2_27 : qCI RX2 27 yX0_init cX0_init 1 0 := ⟨Or.inr ⟨"SquaringClock", qX_i 52 (by decide +kernel) (by decide +kernel)⟩, ⟨tw_53, tw_4, tw_54⟩, rfl, ⟨by decide +kernel, by decide +kernel, by decide +kernel⟩⟩
theorem fl_X0_25 : qFL RX0 25 0 0 := ⟨RX0, TX0, 3, rfl, by decide, cin_0, Or.inl tw_56⟩
theorem pl_X0_25 (x : Int64) : qPL RX0 25 0 0 (.long x) := ⟨RX0, TX0, 3, tyX0, tyX0 0, rfl, by decide, cin_0, tyX0_ok, nmX0, tyX0_ok 0 (by decide), rfl, rfl, Or.inl ⟨rfl, Or.inl tw_56⟩⟩
theorem fl_X2_87 : qFL RX2 87 0 0 := ⟨RX0, TX0, 3, rfl, by decide, cin_0, Or.inr ⟨"SquaringClock", qX_i 57 (by decide +kernel) (by decide +kernel)⟩⟩
theorem pl_X2_87 (x : Int64) : qPL RX2 87 0 0 (.long x) := ⟨RX0, TX0, 3, tyX0, tyX0 0, rfl, by decide, cin_0, tyX0_ok, nmX0, tyX0_ok 0 (by decide), rfl, rfl, Or.inl ⟨rfl, Or.inr ⟨"SquaringClock", qX_i 57 (by decide +kernel) (by decide +kernel)⟩⟩⟩
theorem fl_X0_9 : qFL RX0 9 0 1 := ⟨RX0, TX0, 3, rfl, by decide, cin_0, Or.inl tw_58⟩
theorem pl_X0_9 (x : Int64) : qPL RX0 9 0 1 (.long x) := ⟨RX0, TX0, 3, tyX0, tyX0 1, rfl, by decide, cin_0, tyX0_ok, nmX0, tyX0_ok 1 (by decide), rfl, rfl, Or.inl ⟨rfl, Or.inl tw_58⟩⟩
theorem fl_X2_107 : qFL RX2 107 0 1 := ⟨RX0, TX0, 3, rfl, by decide, cin_0, Or.inr ⟨"SquaringClock", qX_i 59 (by decide +kernel) (by decide +kernel)⟩⟩
theorem pl_X2_107 (x : Int64) : qPL RX2 107 0 1 (.long x) := ⟨RX0, TX0, 3, tyX0, tyX0 1, rfl, by decide, cin_0, tyX0_ok, nmX0, tyX0_ok 1 (by decide), rfl, rfl, Or.inl ⟨rfl, Or.inr ⟨"SquaringClock", qX_i 59 (by decide +kernel) (by decide +kernel)⟩⟩⟩
theorem fl_X0_15 : qFL RX0 15 0 2 := ⟨RX0, TX0, 3, rfl, by decide, cin_0, Or.inl tw_60⟩
theorem pl_X0_15 (x : Int64) : qPL RX0 15 0 2 (.long x) := ⟨RX0, TX0, 3, tyX0, tyX0 2, rfl, by decide, cin_0, tyX0_ok, nmX0, tyX0_ok 2 (by decide), rfl, rfl, Or.inl ⟨rfl, Or.inl tw_60⟩⟩
theorem fl_X2_104 : qFL RX2 104 0 2 := ⟨RX0, TX0, 3, rfl, by decide, cin_0, Or.inr ⟨"SquaringClock", qX_i 61 (by decide +kernel) (by decide +kernel)⟩⟩
theorem pl_X2_104 (x : Int64) : qPL RX2 104 0 2 (.long x) := ⟨RX0, TX0, 3, tyX0, tyX0 2, rfl, by decide, cin_0, tyX0_ok, nmX0, tyX0_ok 2 (by decide), rfl, rfl, Or.inl ⟨rfl, Or.inr ⟨"SquaringClock", qX_i 61 (by decide +kernel) (by decide +kernel)⟩⟩⟩
theorem fl_X2_9 : qFL RX2 9 2 0 := ⟨RX2, TX2, 10, rfl, by decide, cin_2, Or.inl tw_69⟩
theorem pl_X2_9 (x : Int32) : qPL RX2 9 2 0 (.int x) := ⟨RX2, TX2, 10, tyX2, tyX2 0, rfl, by decide, cin_2, tyX2_ok, nmX2, tyX2_ok 0 (by decide), rfl, rfl, Or.inl ⟨rfl, Or.inl tw_69⟩⟩
theorem fl_X4_207 : qFL RX4 207 2 0 := ⟨RX2, TX2, 10, rfl, by decide, cin_2, Or.inr ⟨"SquaringClock", qX_i 70 (by decide +kernel) (by decide +kernel)⟩⟩
theorem pl_X4_207 (x : Int32) : qPL RX4 207 2 0 (.int x) := ⟨RX2, TX2, 10, tyX2, tyX2 0, rfl, by decide, cin_2, tyX2_ok, nmX2, tyX2_ok 0 (by decide), rfl, rfl, Or.inl ⟨rfl, Or.inr ⟨"SquaringClock", qX_i 70 (by decide +kernel) (by decide +kernel)⟩⟩⟩
theorem fl_X2_18 : qFL RX2 18 2 1 := ⟨RX2, TX2, 10, rfl, by decide, cin_2, Or.inl tw_71⟩
theorem pl_X2_18 (x : Nat) : qPL RX2 18 2 1 (.ref x) := ⟨RX2, TX2, 10, tyX2, tyX2 1, rfl, by decide, cin_2, tyX2_ok, nmX2, tyX2_ok 1 (by decide), rfl, rfl, Or.inr ⟨rfl, rfl, tw_71⟩⟩
theorem pl_X2_18n  : qPL RX2 18 2 1 (.null) := ⟨RX2, TX2, 10, tyX2, tyX2 1, rfl, by decide, cin_2, tyX2_ok, nmX2, tyX2_ok 1 (by decide), rfl, rfl, Or.inr ⟨rfl, rfl, tw_71⟩⟩
theorem fl_X4_114 : qFL RX4 114 2 1 := ⟨RX2, TX2, 10, rfl, by decide, cin_2, Or.inr ⟨"SquaringClock", qX_i 72 (by decide +kernel) (by decide +kernel)⟩⟩
theorem fl_X2_22 : qFL RX2 22 2 2 := ⟨RX2, TX2, 10, rfl, by decide, cin_2, Or.inl tw_73⟩
theorem pl_X2_22 (x : Nat) : qPL RX2 22 2 2 (.ref x) := ⟨RX2, TX2, 10, tyX2, tyX2 2, rfl, by decide, cin_2, tyX2_ok, nmX2, tyX2_ok 2 (by decide), rfl, rfl, Or.inr ⟨rfl, rfl, tw_73⟩⟩
theorem pl_X2_22n  : qPL RX2 22 2 2 (.null) := ⟨RX2, TX2, 10, tyX2, tyX2 2, rfl, by decide, cin_2, tyX2_ok, nmX2, tyX2_ok 2 (by decide), rfl, rfl, Or.inr ⟨rfl, rfl, tw_73⟩⟩
theorem fl_X4_93 : qFL RX4 93 2 2 := ⟨RX2, TX2, 10, rfl, by decide, cin_2, Or.inr ⟨"SquaringClock", qX_i 74 (by decide +kernel) (by decide +kernel)⟩⟩
theorem fl_X2_28 : qFL RX2 28 2 3 := ⟨RX2, TX2, 10, rfl, by decide, cin_2, Or.inl tw_75⟩
theorem pl_X2_28 (x : Nat) : qPL RX2 28 2 3 (.ref x) := ⟨RX2, TX2, 10, tyX2, tyX2 3, rfl, by decide, cin_2, tyX2_ok, nmX2, tyX2_ok 3 (by decide), rfl, rfl, Or.inr ⟨rfl, rfl, tw_75⟩⟩
theorem pl_X2_28n  : qPL RX2 28 2 3 (.null) := ⟨RX2, TX2, 10, tyX2, tyX2 3, rfl, by decide, cin_2, tyX2_ok, nmX2, tyX2_ok 3 (by decide), rfl, rfl, Or.inr ⟨rfl, rfl, tw_75⟩⟩
theorem fl_X2_32 : qFL RX2 32 2 4 := ⟨RX2, TX2, 10, rfl, by decide, cin_2, Or.inl tw_76⟩
theorem pl_X2_32 (x : Nat) : qPL RX2 32 2 4 (.ref x) := ⟨RX2, TX2, 10, tyX2, tyX2 4, rfl, by decide, cin_2, tyX2_ok, nmX2, tyX2_ok 4 (by decide), rfl, rfl, Or.inr ⟨rfl, rfl, tw_76⟩⟩
theorem pl_X2_32n  : qPL RX2 32 2 4 (.null) := ⟨RX2, TX2, 10, tyX2, tyX2 4, rfl, by decide, cin_2, tyX2_ok, nmX2, tyX2_ok 4 (by decide), rfl, rfl, Or.inr ⟨rfl, rfl, tw_76⟩⟩
theorem fl_X2_35 : qFL RX2 35 2 5 := ⟨RX2, TX2, 10, rfl, by decide, cin_2, Or.inl tw_77⟩
theorem pl_X2_35 (x : Nat) : qPL RX2 35 2 5 (.ref x) := ⟨RX2, TX2, 10, tyX2, tyX2 5, rfl, by decide, cin_2, tyX2_ok, nmX2, tyX2_ok 5 (by decide), rfl, rfl, Or.inr ⟨rfl, rfl, tw_77⟩⟩
theorem pl_X2_35n  : qPL RX2 35 2 5 (.null) := ⟨RX2, TX2, 10, tyX2, tyX2 5, rfl, by decide, cin_2, tyX2_ok, nmX2, tyX2_ok 5 (by decide), rfl, rfl, Or.inr ⟨rfl, rfl, tw_77⟩⟩
theorem fl_X2_38 : qFL RX2 38 2 6 := ⟨RX2, TX2, 10, rfl, by decide, cin_2, Or.inl tw_78⟩
theorem pl_X2_38 (x : Nat) : qPL RX2 38 2 6 (.ref x) := ⟨RX2, TX2, 10, tyX2, tyX2 6, rfl, by decide, cin_2, tyX2_ok, nmX2, tyX2_ok 6 (by decide), rfl, rfl, Or.inr ⟨rfl, rfl, tw_78⟩⟩
theorem pl_X2_38n  : qPL RX2 38 2 6 (.null) := ⟨RX2, TX2, 10, tyX2, tyX2 6, rfl, by decide, cin_2, tyX2_ok, nmX2, tyX2_ok 6 (by decide), rfl, rfl, Or.inr ⟨rfl, rfl, tw_78⟩⟩
theorem fl_X2_41 : qFL RX2 41 2 7 := ⟨RX2, TX2, 10, rfl, by decide, cin_2, Or.inl tw_79⟩
theorem pl_X2_41 (x : Nat) : qPL RX2 41 2 7 (.ref x) := ⟨RX2, TX2, 10, tyX2, tyX2 7, rfl, by decide, cin_2, tyX2_ok, nmX2, tyX2_ok 7 (by decide), rfl, rfl, Or.inr ⟨rfl, rfl, tw_79⟩⟩
theorem pl_X2_41n  : qPL RX2 41 2 7 (.null) := ⟨RX2, TX2, 10, tyX2, tyX2 7, rfl, by decide, cin_2, tyX2_ok, nmX2, tyX2_ok 7 (by decide), rfl, rfl, Or.inr ⟨rfl, rfl, tw_79⟩⟩
theorem fl_X2_44 : qFL RX2 44 2 8 := ⟨RX2, TX2, 10, rfl, by decide, cin_2, Or.inl tw_80⟩
theorem pl_X2_44 (x : Nat) : qPL RX2 44 2 8 (.ref x) := ⟨RX2, TX2, 10, tyX2, tyX2 8, rfl, by decide, cin_2, tyX2_ok, nmX2, tyX2_ok 8 (by decide), rfl, rfl, Or.inr ⟨rfl, rfl, tw_80⟩⟩
theorem pl_X2_44n  : qPL RX2 44 2 8 (.null) := ⟨RX2, TX2, 10, tyX2, tyX2 8, rfl, by decide, cin_2, tyX2_ok, nmX2, tyX2_ok 8 (by decide), rfl, rfl, Or.inr ⟨rfl, rfl, tw_80⟩⟩
theorem fl_X2_47 : qFL RX2 47 2 9 := ⟨RX2, TX2, 10, rfl, by decide, cin_2, Or.inl tw_81⟩
theorem pl_X2_47 (x : Nat) : qPL RX2 47 2 9 (.ref x) := ⟨RX2, TX2, 10, tyX2, tyX2 9, rfl, by decide, cin_2, tyX2_ok, nmX2, tyX2_ok 9 (by decide), rfl, rfl, Or.inr ⟨rfl, rfl, tw_81⟩⟩
theorem pl_X2_47n  : qPL RX2 47 2 9 (.null) := ⟨RX2, TX2, 10, tyX2, tyX2 9, rfl, by decide, cin_2, tyX2_ok, nmX2, tyX2_ok 9 (by decide), rfl, rfl, Or.inr ⟨rfl, rfl, tw_81⟩⟩
theorem cw_X4_22 : qCI RX4 22 yX3_init cX3_init 1 0 := ⟨Or.inl tw_106, ⟨tw_107, tw_5, tw_108⟩, rfl, ⟨by decide +kernel, by decide +kernel, by decide +kernel⟩⟩
theorem cw_X3_9 : qCI RX3 9 yX1_init cX1_init 1 0 := ⟨Or.inl tw_111, ⟨tw_32, tw_3, tw_33⟩, rfl, ⟨by decide +kernel, by decide +kernel, by decide +kernel⟩⟩
theorem fl_X4_71 : qFL RX4 71 3 0 := ⟨RX3, TX3, 9, rfl, by decide, cin_3, Or.inr ⟨"SquaringClock", qX_i 112 (by decide +kernel) (by decide +kernel)⟩⟩
theorem pl_X4_71 (x : Int32) : qPL RX4 71 3 0 (.int x) := ⟨RX3, TX3, 9, tyX3, tyX3 0, rfl, by decide, cin_3, tyX3_ok, nmX3, tyX3_ok 0 (by decide), rfl, rfl, Or.inl ⟨rfl, Or.inr ⟨"SquaringClock", qX_i 112 (by decide +kernel) (by decide +kernel)⟩⟩⟩
theorem fl_X4_74 : qFL RX4 74 3 1 := ⟨RX3, TX3, 9, rfl, by decide, cin_3, Or.inr ⟨"SquaringClock", qX_i 113 (by decide +kernel) (by decide +kernel)⟩⟩
theorem pl_X4_74 (x : Int32) : qPL RX4 74 3 1 (.int x) := ⟨RX3, TX3, 9, tyX3, tyX3 1, rfl, by decide, cin_3, tyX3_ok, nmX3, tyX3_ok 1 (by decide), rfl, rfl, Or.inl ⟨rfl, Or.inr ⟨"SquaringClock", qX_i 113 (by decide +kernel) (by decide +kernel)⟩⟩⟩
theorem fl_X4_77 : qFL RX4 77 3 2 := ⟨RX3, TX3, 9, rfl, by decide, cin_3, Or.inr ⟨"SquaringClock", qX_i 114 (by decide +kernel) (by decide +kernel)⟩⟩
theorem pl_X4_77 (x : Int32) : qPL RX4 77 3 2 (.int x) := ⟨RX3, TX3, 9, tyX3, tyX3 2, rfl, by decide, cin_3, tyX3_ok, nmX3, tyX3_ok 2 (by decide), rfl, rfl, Or.inl ⟨rfl, Or.inr ⟨"SquaringClock", qX_i 114 (by decide +kernel) (by decide +kernel)⟩⟩⟩
theorem fl_X4_90 : qFL RX4 90 3 3 := ⟨RX3, TX3, 9, rfl, by decide, cin_3, Or.inr ⟨"SquaringClock", qX_i 115 (by decide +kernel) (by decide +kernel)⟩⟩
theorem pl_X4_90 (x : Int32) : qPL RX4 90 3 3 (.int x) := ⟨RX3, TX3, 9, tyX3, tyX3 3, rfl, by decide, cin_3, tyX3_ok, nmX3, tyX3_ok 3 (by decide), rfl, rfl, Or.inl ⟨rfl, Or.inr ⟨"SquaringClock", qX_i 115 (by decide +kernel) (by decide +kernel)⟩⟩⟩
theorem fl_X4_80 : qFL RX4 80 3 4 := ⟨RX3, TX3, 9, rfl, by decide, cin_3, Or.inr ⟨"SquaringClock", qX_i 116 (by decide +kernel) (by decide +kernel)⟩⟩
theorem pl_X4_80 (x : Int32) : qPL RX4 80 3 4 (.int x) := ⟨RX3, TX3, 9, tyX3, tyX3 4, rfl, by decide, cin_3, tyX3_ok, nmX3, tyX3_ok 4 (by decide), rfl, rfl, Or.inl ⟨rfl, Or.inr ⟨"SquaringClock", qX_i 116 (by decide +kernel) (by decide +kernel)⟩⟩⟩
theorem fl_X4_83 : qFL RX4 83 3 5 := ⟨RX3, TX3, 9, rfl, by decide, cin_3, Or.inr ⟨"SquaringClock", qX_i 117 (by decide +kernel) (by decide +kernel)⟩⟩
theorem pl_X4_83 (x : Int32) : qPL RX4 83 3 5 (.int x) := ⟨RX3, TX3, 9, tyX3, tyX3 5, rfl, by decide, cin_3, tyX3_ok, nmX3, tyX3_ok 5 (by decide), rfl, rfl, Or.inl ⟨rfl, Or.inr ⟨"SquaringClock", qX_i 117 (by decide +kernel) (by decide +kernel)⟩⟩⟩
theorem fl_X3_10 : qFL RX3 10 3 6 := ⟨RX3, TX3, 9, rfl, by decide, cin_3, Or.inl tw_118⟩
theorem pl_X3_10 (x : Nat) : qPL RX3 10 3 6 (.ref x) := ⟨RX3, TX3, 9, tyX3, tyX3 6, rfl, by decide, cin_3, tyX3_ok, nmX3, tyX3_ok 6 (by decide), rfl, rfl, Or.inr ⟨rfl, rfl, tw_118⟩⟩
theorem pl_X3_10n  : qPL RX3 10 3 6 (.null) := ⟨RX3, TX3, 9, tyX3, tyX3 6, rfl, by decide, cin_3, tyX3_ok, nmX3, tyX3_ok 6 (by decide), rfl, rfl, Or.inr ⟨rfl, rfl, tw_118⟩⟩
theorem fl_X4_97 : qFL RX4 97 3 6 := ⟨RX3, TX3, 9, rfl, by decide, cin_3, Or.inr ⟨"SquaringClock", qX_i 119 (by decide +kernel) (by decide +kernel)⟩⟩
theorem fl_X3_16 : qFL RX3 16 3 7 := ⟨RX3, TX3, 9, rfl, by decide, cin_3, Or.inl tw_120⟩
theorem pl_X3_16 (x : Nat) : qPL RX3 16 3 7 (.ref x) := ⟨RX3, TX3, 9, tyX3, tyX3 7, rfl, by decide, cin_3, tyX3_ok, nmX3, tyX3_ok 7 (by decide), rfl, rfl, Or.inr ⟨rfl, rfl, tw_120⟩⟩
theorem pl_X3_16n  : qPL RX3 16 3 7 (.null) := ⟨RX3, TX3, 9, tyX3, tyX3 7, rfl, by decide, cin_3, tyX3_ok, nmX3, tyX3_ok 7 (by decide), rfl, rfl, Or.inr ⟨rfl, rfl, tw_120⟩⟩
theorem fl_X4_104 : qFL RX4 104 3 7 := ⟨RX3, TX3, 9, rfl, by decide, cin_3, Or.inr ⟨"SquaringClock", qX_i 121 (by decide +kernel) (by decide +kernel)⟩⟩
theorem fl_X3_19 : qFL RX3 19 3 8 := ⟨RX3, TX3, 9, rfl, by decide, cin_3, Or.inl tw_122⟩
theorem pl_X3_19 (x : Nat) : qPL RX3 19 3 8 (.ref x) := ⟨RX3, TX3, 9, tyX3, tyX3 8, rfl, by decide, cin_3, tyX3_ok, nmX3, tyX3_ok 8 (by decide), rfl, rfl, Or.inr ⟨rfl, rfl, tw_122⟩⟩
theorem pl_X3_19n  : qPL RX3 19 3 8 (.null) := ⟨RX3, TX3, 9, tyX3, tyX3 8, rfl, by decide, cin_3, tyX3_ok, nmX3, tyX3_ok 8 (by decide), rfl, rfl, Or.inr ⟨rfl, rfl, tw_122⟩⟩
theorem fl_X4_111 : qFL RX4 111 3 8 := ⟨RX3, TX3, 9, rfl, by decide, cin_3, Or.inr ⟨"SquaringClock", qX_i 123 (by decide +kernel) (by decide +kernel)⟩⟩
theorem cw_X4_29 : qCI RX4 29 yX1_init cX1_init 1 0 := ⟨Or.inl tw_145, ⟨tw_32, tw_3, tw_33⟩, rfl, ⟨by decide +kernel, by decide +kernel, by decide +kernel⟩⟩
theorem fl_X4_10 : qFL RX4 10 4 0 := ⟨RX4, TX4, 7, rfl, by decide, cin_4, Or.inl tw_146⟩
theorem pl_X4_10 (x : Nat) : qPL RX4 10 4 0 (.ref x) := ⟨RX4, TX4, 7, tyX4, tyX4 0, rfl, by decide, cin_4, tyX4_ok, nmX4, tyX4_ok 0 (by decide), rfl, rfl, Or.inr ⟨rfl, rfl, tw_146⟩⟩
theorem pl_X4_10n  : qPL RX4 10 4 0 (.null) := ⟨RX4, TX4, 7, tyX4, tyX4 0, rfl, by decide, cin_4, tyX4_ok, nmX4, tyX4_ok 0 (by decide), rfl, rfl, Or.inr ⟨rfl, rfl, tw_146⟩⟩
theorem fl_X4_18 : qFL RX4 18 4 1 := ⟨RX4, TX4, 7, rfl, by decide, cin_4, Or.inl tw_147⟩
theorem pl_X4_18 (x : Nat) : qPL RX4 18 4 1 (.ref x) := ⟨RX4, TX4, 7, tyX4, tyX4 1, rfl, by decide, cin_4, tyX4_ok, nmX4, tyX4_ok 1 (by decide), rfl, rfl, Or.inr ⟨rfl, rfl, tw_147⟩⟩
theorem pl_X4_18n  : qPL RX4 18 4 1 (.null) := ⟨RX4, TX4, 7, tyX4, tyX4 1, rfl, by decide, cin_4, tyX4_ok, nmX4, tyX4_ok 1 (by decide), rfl, rfl, Or.inr ⟨rfl, rfl, tw_147⟩⟩
theorem fl_X4_25 : qFL RX4 25 4 2 := ⟨RX4, TX4, 7, rfl, by decide, cin_4, Or.inl tw_148⟩
theorem pl_X4_25 (x : Nat) : qPL RX4 25 4 2 (.ref x) := ⟨RX4, TX4, 7, tyX4, tyX4 2, rfl, by decide, cin_4, tyX4_ok, nmX4, tyX4_ok 2 (by decide), rfl, rfl, Or.inr ⟨rfl, rfl, tw_148⟩⟩
theorem pl_X4_25n  : qPL RX4 25 4 2 (.null) := ⟨RX4, TX4, 7, tyX4, tyX4 2, rfl, by decide, cin_4, tyX4_ok, nmX4, tyX4_ok 2 (by decide), rfl, rfl, Or.inr ⟨rfl, rfl, tw_148⟩⟩
theorem fl_X4_30 : qFL RX4 30 4 3 := ⟨RX4, TX4, 7, rfl, by decide, cin_4, Or.inl tw_149⟩
theorem pl_X4_30 (x : Nat) : qPL RX4 30 4 3 (.ref x) := ⟨RX4, TX4, 7, tyX4, tyX4 3, rfl, by decide, cin_4, tyX4_ok, nmX4, tyX4_ok 3 (by decide), rfl, rfl, Or.inr ⟨rfl, rfl, tw_149⟩⟩
theorem pl_X4_30n  : qPL RX4 30 4 3 (.null) := ⟨RX4, TX4, 7, tyX4, tyX4 3, rfl, by decide, cin_4, tyX4_ok, nmX4, tyX4_ok 3 (by decide), rfl, rfl, Or.inr ⟨rfl, rfl, tw_149⟩⟩
theorem fl_X4_34 : qFL RX4 34 4 4 := ⟨RX4, TX4, 7, rfl, by decide, cin_4, Or.inl tw_150⟩
theorem pl_X4_34t  : qPL RX4 34 4 4 (.int (qI 1)) := ⟨RX4, TX4, 7, tyX4, tyX4 4, rfl, by decide, cin_4, tyX4_ok, nmX4, tyX4_ok 4 (by decide), rfl, rfl, Or.inl ⟨rfl, Or.inl tw_150⟩⟩
theorem pl_X4_34f  : qPL RX4 34 4 4 (.int (qI 0)) := ⟨RX4, TX4, 7, tyX4, tyX4 4, rfl, by decide, cin_4, tyX4_ok, nmX4, tyX4_ok 4 (by decide), rfl, rfl, Or.inl ⟨rfl, Or.inl tw_150⟩⟩
theorem fl_X4_38 : qFL RX4 38 4 5 := ⟨RX4, TX4, 7, rfl, by decide, cin_4, Or.inl tw_151⟩
theorem pl_X4_38 (x : Int32) : qPL RX4 38 4 5 (.int x) := ⟨RX4, TX4, 7, tyX4, tyX4 5, rfl, by decide, cin_4, tyX4_ok, nmX4, tyX4_ok 5 (by decide), rfl, rfl, Or.inl ⟨rfl, Or.inl tw_151⟩⟩
theorem fl_X4_42 : qFL RX4 42 4 6 := ⟨RX4, TX4, 7, rfl, by decide, cin_4, Or.inl tw_152⟩
theorem pl_X4_42 (x : Nat) : qPL RX4 42 4 6 (.ref x) := ⟨RX4, TX4, 7, tyX4, tyX4 6, rfl, by decide, cin_4, tyX4_ok, nmX4, tyX4_ok 6 (by decide), rfl, rfl, Or.inl ⟨rfl, Or.inl tw_152⟩⟩
theorem pl_X4_42n  : qPL RX4 42 4 6 (.null) := ⟨RX4, TX4, 7, tyX4, tyX4 6, rfl, by decide, cin_4, tyX4_ok, nmX4, tyX4_ok 6 (by decide), rfl, rfl, Or.inl ⟨rfl, Or.inl tw_152⟩⟩
theorem cw_L_101 : qCV RL 101 RX4 yX4_drop cX4_drop 2 (some .boolean) 0 := ⟨⟨tw_169, tw_170, tw_171, tw_1, tw_172⟩, rfl, ⟨by decide +kernel, by decide +kernel, by decide +kernel⟩⟩
theorem cw_L_106 : qCV RL 106 RX4 yX4_rounds cX4_rounds 1 (some .int) 0 := ⟨⟨tw_173, tw_174, tw_175, tw_1, tw_176⟩, rfl, ⟨by decide +kernel, by decide +kernel, by decide +kernel⟩⟩
theorem cw_L_7 : qCV RL 7 RX4 yX4_discriminant cX4_discriminant 3 none 1 := ⟨⟨tw_182, tw_183, tw_184, tw_1, tw_185⟩, rfl, ⟨by decide +kernel, by decide +kernel, by decide +kernel⟩⟩
theorem cw_X4_59 : qCV RX4 59 RX2 yX2_choose cX2_choose 2 none 1 := ⟨⟨tw_272, tw_273, tw_274, tw_2, tw_275⟩, rfl, ⟨by decide +kernel, by decide +kernel, by decide +kernel⟩⟩
theorem cw_X2_50 : qCV RX2 50 RX2 yX2_complete cX2_complete 6 none 3 := ⟨⟨tw_276, tw_277, tw_278, tw_2, tw_279⟩, rfl, ⟨by decide +kernel, by decide +kernel, by decide +kernel⟩⟩
theorem cw_X2_69 : qCSN RX2 69 yX4_quotient cX4_quotient 4 (some .long) 2 := ⟨⟨"SquaringClock", qX_i 281 (by decide +kernel) (by decide +kernel)⟩, ⟨tw_282, tw_1, tw_283⟩, ⟨by decide +kernel, by decide +kernel, by decide +kernel⟩⟩
theorem cw_X2_56 : qCV RX2 56 RX2 yX2_settle cX2_settle 3 none 1 := ⟨⟨tw_285, tw_286, tw_287, tw_2, tw_288⟩, rfl, ⟨by decide +kernel, by decide +kernel, by decide +kernel⟩⟩
theorem cw_X2_91 : qCV RX2 91 RX1 yX1_isReduced cX1_isReduced 1 (some .boolean) 0 := ⟨⟨tw_290, tw_291, tw_292, tw_3, tw_293⟩, rfl, ⟨by decide +kernel, by decide +kernel, by decide +kernel⟩⟩
theorem cw_X2_95 : qCV RX2 95 RX1 yX1_swapEnds cX1_swapEnds 3 none 0 := ⟨⟨tw_294, tw_295, tw_296, tw_3, tw_297⟩, rfl, ⟨by decide +kernel, by decide +kernel, by decide +kernel⟩⟩
theorem cw_X2_98 : qCV RX2 98 RX2 yX2_bringBNearZero cX2_bringBNearZero 2 none 1 := ⟨⟨tw_298, tw_299, tw_300, tw_2, tw_301⟩, rfl, ⟨by decide +kernel, by decide +kernel, by decide +kernel⟩⟩
theorem cw_X2_76 : qCSN RX2 76 yX4_remainder cX4_remainder 6 (some .long) 2 := ⟨⟨"SquaringClock", qX_i 302 (by decide +kernel) (by decide +kernel)⟩, ⟨tw_303, tw_1, tw_304⟩, ⟨by decide +kernel, by decide +kernel, by decide +kernel⟩⟩
theorem cw_L_17 : qCV RL 17 RX4 yX4_begin cX4_begin 3 (some .int) 1 := ⟨⟨tw_308, tw_309, tw_310, tw_1, tw_311⟩, rfl, ⟨by decide +kernel, by decide +kernel, by decide +kernel⟩⟩
theorem cw_X4_63 : qCV RX4 63 RX4 yX4_needDiscriminant cX4_needDiscriminant 1 none 0 := ⟨⟨tw_312, tw_314, qB_p (q := (yX4_needDiscriminant, 7)) 1 (by decide +kernel), tw_1, tw_315⟩, rfl, ⟨by decide +kernel, by decide +kernel, by decide +kernel⟩⟩
theorem cw_X4_66 : qCS RX4 66 yX4_needTurns cX4_needTurns 1 none 1 := ⟨⟨tw_317, tw_318, tw_1, tw_319⟩, rfl, ⟨by decide +kernel, by decide +kernel, by decide +kernel⟩⟩
theorem cw_X4_86 : qCV RX4 86 RX4 yX4_nextExponent cX4_nextExponent 2 (some .int) 0 := ⟨⟨tw_322, tw_324, qB_p (q := (yX4_nextExponent, 7)) 2 (by decide +kernel), tw_1, tw_325⟩, rfl, ⟨by decide +kernel, by decide +kernel, by decide +kernel⟩⟩
theorem cw_X4_231 : qCS RX4 231 yX4_mixed cX4_mixed 3 (some .int) 2 := ⟨⟨tw_326, tw_327, tw_1, tw_328⟩, rfl, ⟨by decide +kernel, by decide +kernel, by decide +kernel⟩⟩
theorem cw_X4_234 : qCS RX4 234 yX4_mixedForm cX4_mixedForm 2 (some .int) 2 := ⟨⟨tw_330, tw_331, tw_1, tw_332⟩, rfl, ⟨by decide +kernel, by decide +kernel, by decide +kernel⟩⟩
theorem cw_X4_100 : qCV RX4 100 RX2 yX2_power cX2_power 5 none 3 := ⟨⟨tw_334, tw_335, tw_336, tw_2, tw_337⟩, rfl, ⟨by decide +kernel, by decide +kernel, by decide +kernel⟩⟩
theorem cw_X2_101 : qCV RX2 101 RX1 yX1_become cX1_become 2 none 1 := ⟨⟨tw_338, tw_339, tw_340, tw_3, tw_341⟩, rfl, ⟨by decide +kernel, by decide +kernel, by decide +kernel⟩⟩
theorem cw_X2_110 : qCV RX2 110 RX2 yX2_product cX2_product 16 none 3 := ⟨⟨tw_342, tw_343, tw_344, tw_2, tw_345⟩, rfl, ⟨by decide +kernel, by decide +kernel, by decide +kernel⟩⟩
theorem cw_X2_83 : qCV RX2 83 RX0 yX0_find cX0_find 18 none 2 := ⟨⟨tw_346, tw_347, tw_348, tw_4, tw_349⟩, rfl, ⟨by decide +kernel, by decide +kernel, by decide +kernel⟩⟩
theorem cw_X0_19 : qCSN RX0 19 yX4_quotient cX4_quotient 4 (some .long) 2 := ⟨⟨"SquaringClock", qX_i 351 (by decide +kernel) (by decide +kernel)⟩, ⟨tw_282, tw_1, tw_283⟩, ⟨by decide +kernel, by decide +kernel, by decide +kernel⟩⟩
theorem cw_X4_107 : qCV RX4 107 RX1 yX1_become cX1_become 2 none 1 := ⟨⟨tw_353, tw_339, tw_340, tw_3, tw_341⟩, rfl, ⟨by decide +kernel, by decide +kernel, by decide +kernel⟩⟩
theorem cw_L_21 : qCV RL 21 RX4 yX4_work cX4_work 4 (some .int) 1 := ⟨⟨tw_357, tw_358, tw_359, tw_1, tw_360⟩, rfl, ⟨by decide +kernel, by decide +kernel, by decide +kernel⟩⟩
theorem cw_X4_125 : qCV RX4 125 RX2 yX2_product cX2_product 16 none 3 := ⟨⟨tw_365, tw_343, tw_344, tw_2, tw_345⟩, rfl, ⟨by decide +kernel, by decide +kernel, by decide +kernel⟩⟩
theorem cw_X4_129 : qCS RX4 129 yX4_primeOf cX4_primeOf 4 (some .int) 3 := ⟨⟨tw_366, tw_367, tw_1, tw_368⟩, rfl, ⟨by decide +kernel, by decide +kernel, by decide +kernel⟩⟩
theorem cw_X4_239 : qCS RX4 239 yX4_leastPrimeFrom cX4_leastPrimeFrom 3 (some .int) 1 := ⟨⟨tw_369, tw_370, tw_1, tw_371⟩, rfl, ⟨by decide +kernel, by decide +kernel, by decide +kernel⟩⟩
theorem cw_X4_250 : qCS RX4 250 yX4_isPrime cX4_isPrime 2 (some .boolean) 1 := ⟨⟨tw_373, tw_374, tw_1, tw_375⟩, rfl, ⟨by decide +kernel, by decide +kernel, by decide +kernel⟩⟩
theorem cw_L_24 : qCV RL 24 RX4 yX4_prove cX4_prove 4 (some .int) 1 := ⟨⟨tw_379, tw_380, tw_381, tw_1, tw_382⟩, rfl, ⟨by decide +kernel, by decide +kernel, by decide +kernel⟩⟩
theorem cw_X4_135 : qCV RX4 135 RX4 yX4_stepOfProof cX4_stepOfProof 2 none 1 := ⟨⟨tw_384, tw_386, qB_p (q := (yX4_stepOfProof, 7)) 3 (by decide +kernel), tw_1, tw_387⟩, rfl, ⟨by decide +kernel, by decide +kernel, by decide +kernel⟩⟩
theorem cw_L_27 : qCV RL 27 RX4 yX4_publish cX4_publish 1 (some .int) 0 := ⟨⟨tw_391, tw_392, tw_393, tw_1, tw_394⟩, rfl, ⟨by decide +kernel, by decide +kernel, by decide +kernel⟩⟩
theorem cw_L_31 : qCV RL 31 RX4 yX4_told cX4_told 4 (some .int) 2 := ⟨⟨tw_400, tw_401, tw_402, tw_1, tw_403⟩, rfl, ⟨by decide +kernel, by decide +kernel, by decide +kernel⟩⟩
theorem cw_X4_141 : qCV RX4 141 RX4 yX4_bookedOrRunning cX4_bookedOrRunning 2 (some (.object "SquaringClock$Round")) 1 := ⟨⟨tw_404, tw_406, qB_p (q := (yX4_bookedOrRunning, 7)) 4 (by decide +kernel), tw_1, tw_407⟩, rfl, ⟨by decide +kernel, by decide +kernel, by decide +kernel⟩⟩
theorem cw_X4_159 : qCV RX4 159 RX4 yX4_bookedRound cX4_bookedRound 2 (some (.object "SquaringClock$Round")) 1 := ⟨⟨tw_408, tw_410, qB_p (q := (yX4_bookedRound, 7)) 5 (by decide +kernel), tw_1, tw_411⟩, rfl, ⟨by decide +kernel, by decide +kernel, by decide +kernel⟩⟩
theorem cw_L_37 : qCV RL 37 RX4 yX4_form cX4_form 5 (some .int) 3 := ⟨⟨tw_432, tw_433, tw_434, tw_1, tw_435⟩, rfl, ⟨by decide +kernel, by decide +kernel, by decide +kernel⟩⟩
theorem cw_X4_150 : qCS RX4 150 yX4_needPart cX4_needPart 1 none 1 := ⟨⟨tw_436, tw_437, tw_1, tw_438⟩, rfl, ⟨by decide +kernel, by decide +kernel, by decide +kernel⟩⟩
theorem cw_X4_153 : qCV RX4 153 RX1 yX1_part cX1_part 2 (some .long) 1 := ⟨⟨tw_440, tw_441, tw_442, tw_3, tw_443⟩, rfl, ⟨by decide +kernel, by decide +kernel, by decide +kernel⟩⟩
theorem cw_L_41 : qCV RL 41 RX4 yX4_verify cX4_verify 3 (some .boolean) 1 := ⟨⟨tw_448, tw_449, tw_450, tw_1, tw_451⟩, rfl, ⟨by decide +kernel, by decide +kernel, by decide +kernel⟩⟩
theorem cw_X4_162 : qCV RX4 162 RX2 yX2_isGeneratorsPower cX2_isGeneratorsPower 3 (some .boolean) 2 := ⟨⟨tw_452, tw_453, tw_454, tw_2, tw_455⟩, rfl, ⟨by decide +kernel, by decide +kernel, by decide +kernel⟩⟩
theorem cw_X2_114 : qCV RX2 114 RX2 yX2_power cX2_power 5 none 3 := ⟨⟨tw_456, tw_335, tw_336, tw_2, tw_337⟩, rfl, ⟨by decide +kernel, by decide +kernel, by decide +kernel⟩⟩
theorem cw_X2_118 : qCV RX2 118 RX1 yX1_isSame cX1_isSame 2 (some .boolean) 1 := ⟨⟨tw_457, tw_458, tw_459, tw_3, tw_460⟩, rfl, ⟨by decide +kernel, by decide +kernel, by decide +kernel⟩⟩
theorem cw_X4_166 : qCV RX4 166 RX2 yX2_holds cX2_holds 6 (some .boolean) 5 := ⟨⟨tw_461, tw_462, tw_463, tw_2, tw_464⟩, rfl, ⟨by decide +kernel, by decide +kernel, by decide +kernel⟩⟩
theorem cw_X2_122 : qCV RX2 122 RX2 yX2_restOfPowerOfTwo cX2_restOfPowerOfTwo 5 (some .int) 2 := ⟨⟨tw_465, tw_466, tw_467, tw_2, tw_468⟩, rfl, ⟨by decide +kernel, by decide +kernel, by decide +kernel⟩⟩
theorem cw_L_45 : qCV RL 45 RX4 yX4_put cX4_put 4 none 3 := ⟨⟨tw_472, tw_473, tw_474, tw_1, tw_475⟩, rfl, ⟨by decide +kernel, by decide +kernel, by decide +kernel⟩⟩
theorem cw_X4_170 : qCS RX4 170 yX4_needSlot cX4_needSlot 1 none 1 := ⟨⟨tw_476, tw_477, tw_1, tw_478⟩, rfl, ⟨by decide +kernel, by decide +kernel, by decide +kernel⟩⟩
theorem cw_X4_175 : qCV RX4 175 RX2 yX2_hasForm cX2_hasForm 7 (some .boolean) 2 := ⟨⟨tw_481, tw_482, tw_483, tw_2, tw_484⟩, rfl, ⟨by decide +kernel, by decide +kernel, by decide +kernel⟩⟩
theorem cw_X2_79 : qCV RX2 79 RX2 yX2_hasNoCommonDivisor cX2_hasNoCommonDivisor 7 (some .boolean) 3 := ⟨⟨tw_485, tw_486, tw_487, tw_2, tw_488⟩, rfl, ⟨by decide +kernel, by decide +kernel, by decide +kernel⟩⟩
theorem cw_X4_181 : qCV RX4 181 RX2 yX2_complete cX2_complete 6 none 3 := ⟨⟨tw_490, tw_277, tw_278, tw_2, tw_279⟩, rfl, ⟨by decide +kernel, by decide +kernel, by decide +kernel⟩⟩
theorem cw_L_49 : qCV RL 49 RX4 yX4_buffer cX4_buffer 3 (some .long) 2 := ⟨⟨tw_495, tw_496, tw_497, tw_1, tw_498⟩, rfl, ⟨by decide +kernel, by decide +kernel, by decide +kernel⟩⟩
theorem cw_X4_185 : qCV RX4 185 RX4 yX4_needFilled cX4_needFilled 2 none 1 := ⟨⟨tw_499, tw_501, qB_p (q := (yX4_needFilled, 7)) 6 (by decide +kernel), tw_1, tw_502⟩, rfl, ⟨by decide +kernel, by decide +kernel, by decide +kernel⟩⟩
theorem cw_L_55 : qCV RL 55 RX4 yX4_reduce cX4_reduce 3 none 2 := ⟨⟨tw_522, tw_523, tw_524, tw_1, tw_525⟩, rfl, ⟨by decide +kernel, by decide +kernel, by decide +kernel⟩⟩
theorem cw_X4_188 : qCV RX4 188 RX2 yX2_settle cX2_settle 3 none 1 := ⟨⟨tw_526, tw_286, tw_287, tw_2, tw_288⟩, rfl, ⟨by decide +kernel, by decide +kernel, by decide +kernel⟩⟩
theorem cw_L_59 : qCV RL 59 RX4 yX4_multiply cX4_multiply 4 none 3 := ⟨⟨tw_530, tw_531, tw_532, tw_1, tw_533⟩, rfl, ⟨by decide +kernel, by decide +kernel, by decide +kernel⟩⟩
theorem cw_L_62 : qCV RL 62 RX4 yX4_raise cX4_raise 4 none 3 := ⟨⟨tw_537, tw_538, tw_539, tw_1, tw_540⟩, rfl, ⟨by decide +kernel, by decide +kernel, by decide +kernel⟩⟩
theorem cw_L_65 : qCV RL 65 RX4 yX4_test cX4_test 7 (some .int) 1 := ⟨⟨tw_545, tw_546, tw_547, tw_1, tw_548⟩, rfl, ⟨by decide +kernel, by decide +kernel, by decide +kernel⟩⟩
theorem cw_X4_193 : qCV RX4 193 RX1 yX1_isSame cX1_isSame 2 (some .boolean) 1 := ⟨⟨tw_549, tw_458, tw_459, tw_3, tw_460⟩, rfl, ⟨by decide +kernel, by decide +kernel, by decide +kernel⟩⟩
theorem cw_X4_197 : qCV RX4 197 RX1 yX1_isReduced cX1_isReduced 1 (some .boolean) 0 := ⟨⟨tw_550, tw_291, tw_292, tw_3, tw_293⟩, rfl, ⟨by decide +kernel, by decide +kernel, by decide +kernel⟩⟩
theorem cw_L_68 : qCV RL 68 RX4 yX4_order cX4_order 2 (some .int) 1 := ⟨⟨tw_554, tw_555, tw_556, tw_1, tw_557⟩, rfl, ⟨by decide +kernel, by decide +kernel, by decide +kernel⟩⟩
theorem cw_X4_203 : qCV RX4 203 RX2 yX2_generatorsOrder cX2_generatorsOrder 3 (some .int) 1 := ⟨⟨tw_559, tw_560, tw_561, tw_2, tw_562⟩, rfl, ⟨by decide +kernel, by decide +kernel, by decide +kernel⟩⟩
theorem cw_L_71 : qCV RL 71 RX4 yX4_classes cX4_classes 1 (some .int) 0 := ⟨⟨tw_566, tw_567, tw_568, tw_1, tw_569⟩, rfl, ⟨by decide +kernel, by decide +kernel, by decide +kernel⟩⟩
theorem cw_X4_213 : qCV RX4 213 RX2 yX2_countReduced cX2_countReduced 8 (some .int) 0 := ⟨⟨tw_572, tw_573, tw_574, tw_2, tw_575⟩, rfl, ⟨by decide +kernel, by decide +kernel, by decide +kernel⟩⟩
theorem cw_L_77 : qCI RL 77 yX5_init cX5_init 1 0 := ⟨Or.inl tw_579, ⟨tw_580, tw_6, tw_581⟩, rfl, ⟨by decide +kernel, by decide +kernel, by decide +kernel⟩⟩
theorem fl_X5_27 : qFL RX5 27 5 0 := ⟨RX5, TX5, 12, rfl, by decide, cin_5, Or.inl tw_583⟩
theorem pl_X5_27 (x : Int32) : qPL RX5 27 5 0 (.int x) := ⟨RX5, TX5, 12, tyX5, tyX5 0, rfl, by decide, cin_5, tyX5_ok, nmX5, tyX5_ok 0 (by decide), rfl, rfl, Or.inl ⟨rfl, Or.inl tw_583⟩⟩
theorem fl_X5_90 : qFL RX5 90 5 1 := ⟨RX5, TX5, 12, rfl, by decide, cin_5, Or.inl tw_584⟩
theorem pl_X5_90 (x : Int64) : qPL RX5 90 5 1 (.long x) := ⟨RX5, TX5, 12, tyX5, tyX5 1, rfl, by decide, cin_5, tyX5_ok, nmX5, tyX5_ok 1 (by decide), rfl, rfl, Or.inl ⟨rfl, Or.inl tw_584⟩⟩
theorem fl_X5_7 : qFL RX5 7 5 2 := ⟨RX5, TX5, 12, rfl, by decide, cin_5, Or.inl tw_585⟩
theorem pl_X5_7 (x : Nat) : qPL RX5 7 5 2 (.ref x) := ⟨RX5, TX5, 12, tyX5, tyX5 2, rfl, by decide, cin_5, tyX5_ok, nmX5, tyX5_ok 2 (by decide), rfl, rfl, Or.inr ⟨rfl, rfl, tw_585⟩⟩
theorem pl_X5_7n  : qPL RX5 7 5 2 (.null) := ⟨RX5, TX5, 12, tyX5, tyX5 2, rfl, by decide, cin_5, tyX5_ok, nmX5, tyX5_ok 2 (by decide), rfl, rfl, Or.inr ⟨rfl, rfl, tw_585⟩⟩
theorem fl_X5_13 : qFL RX5 13 5 3 := ⟨RX5, TX5, 12, rfl, by decide, cin_5, Or.inl tw_586⟩
theorem pl_X5_13 (x : Nat) : qPL RX5 13 5 3 (.ref x) := ⟨RX5, TX5, 12, tyX5, tyX5 3, rfl, by decide, cin_5, tyX5_ok, nmX5, tyX5_ok 3 (by decide), rfl, rfl, Or.inr ⟨rfl, rfl, tw_586⟩⟩
theorem pl_X5_13n  : qPL RX5 13 5 3 (.null) := ⟨RX5, TX5, 12, tyX5, tyX5 3, rfl, by decide, cin_5, tyX5_ok, nmX5, tyX5_ok 3 (by decide), rfl, rfl, Or.inr ⟨rfl, rfl, tw_586⟩⟩
theorem fl_X5_16 : qFL RX5 16 5 4 := ⟨RX5, TX5, 12, rfl, by decide, cin_5, Or.inl tw_587⟩
theorem pl_X5_16 (x : Nat) : qPL RX5 16 5 4 (.ref x) := ⟨RX5, TX5, 12, tyX5, tyX5 4, rfl, by decide, cin_5, tyX5_ok, nmX5, tyX5_ok 4 (by decide), rfl, rfl, Or.inr ⟨rfl, rfl, tw_587⟩⟩
theorem pl_X5_16n  : qPL RX5 16 5 4 (.null) := ⟨RX5, TX5, 12, tyX5, tyX5 4, rfl, by decide, cin_5, tyX5_ok, nmX5, tyX5_ok 4 (by decide), rfl, rfl, Or.inr ⟨rfl, rfl, tw_587⟩⟩
theorem fl_X5_19 : qFL RX5 19 5 5 := ⟨RX5, TX5, 12, rfl, by decide, cin_5, Or.inl tw_588⟩
theorem pl_X5_19 (x : Nat) : qPL RX5 19 5 5 (.ref x) := ⟨RX5, TX5, 12, tyX5, tyX5 5, rfl, by decide, cin_5, tyX5_ok, nmX5, tyX5_ok 5 (by decide), rfl, rfl, Or.inr ⟨rfl, rfl, tw_588⟩⟩
theorem pl_X5_19n  : qPL RX5 19 5 5 (.null) := ⟨RX5, TX5, 12, tyX5, tyX5 5, rfl, by decide, cin_5, tyX5_ok, nmX5, tyX5_ok 5 (by decide), rfl, rfl, Or.inr ⟨rfl, rfl, tw_588⟩⟩
theorem fl_X5_86 : qFL RX5 86 5 6 := ⟨RX5, TX5, 12, rfl, by decide, cin_5, Or.inl tw_589⟩
theorem pl_X5_86t  : qPL RX5 86 5 6 (.int (qI 1)) := ⟨RX5, TX5, 12, tyX5, tyX5 6, rfl, by decide, cin_5, tyX5_ok, nmX5, tyX5_ok 6 (by decide), rfl, rfl, Or.inl ⟨rfl, Or.inl tw_589⟩⟩
theorem pl_X5_86f  : qPL RX5 86 5 6 (.int (qI 0)) := ⟨RX5, TX5, 12, tyX5, tyX5 6, rfl, by decide, cin_5, tyX5_ok, nmX5, tyX5_ok 6 (by decide), rfl, rfl, Or.inl ⟨rfl, Or.inl tw_589⟩⟩
theorem fl_X5_94 : qFL RX5 94 5 7 := ⟨RX5, TX5, 12, rfl, by decide, cin_5, Or.inl tw_590⟩
theorem pl_X5_94 (x : Int32) : qPL RX5 94 5 7 (.int x) := ⟨RX5, TX5, 12, tyX5, tyX5 7, rfl, by decide, cin_5, tyX5_ok, nmX5, tyX5_ok 7 (by decide), rfl, rfl, Or.inl ⟨rfl, Or.inl tw_590⟩⟩
theorem fl_X5_23 : qFL RX5 23 5 8 := ⟨RX5, TX5, 12, rfl, by decide, cin_5, Or.inl tw_591⟩
theorem pl_X5_23 (x : Nat) : qPL RX5 23 5 8 (.ref x) := ⟨RX5, TX5, 12, tyX5, tyX5 8, rfl, by decide, cin_5, tyX5_ok, nmX5, tyX5_ok 8 (by decide), rfl, rfl, Or.inr ⟨rfl, rfl, tw_591⟩⟩
theorem pl_X5_23n  : qPL RX5 23 5 8 (.null) := ⟨RX5, TX5, 12, tyX5, tyX5 8, rfl, by decide, cin_5, tyX5_ok, nmX5, tyX5_ok 8 (by decide), rfl, rfl, Or.inr ⟨rfl, rfl, tw_591⟩⟩
theorem fl_X5_108 : qFL RX5 108 5 9 := ⟨RX5, TX5, 12, rfl, by decide, cin_5, Or.inl tw_592⟩
theorem pl_X5_108 (x : Int32) : qPL RX5 108 5 9 (.int x) := ⟨RX5, TX5, 12, tyX5, tyX5 9, rfl, by decide, cin_5, tyX5_ok, nmX5, tyX5_ok 9 (by decide), rfl, rfl, Or.inl ⟨rfl, Or.inl tw_592⟩⟩
theorem fl_X5_111 : qFL RX5 111 5 10 := ⟨RX5, TX5, 12, rfl, by decide, cin_5, Or.inl tw_593⟩
theorem pl_X5_111 (x : Int32) : qPL RX5 111 5 10 (.int x) := ⟨RX5, TX5, 12, tyX5, tyX5 10, rfl, by decide, cin_5, tyX5_ok, nmX5, tyX5_ok 10 (by decide), rfl, rfl, Or.inl ⟨rfl, Or.inl tw_593⟩⟩
theorem fl_X5_114 : qFL RX5 114 5 11 := ⟨RX5, TX5, 12, rfl, by decide, cin_5, Or.inl tw_594⟩
theorem pl_X5_114 (x : Int32) : qPL RX5 114 5 11 (.int x) := ⟨RX5, TX5, 12, tyX5, tyX5 11, rfl, by decide, cin_5, tyX5_ok, nmX5, tyX5_ok 11 (by decide), rfl, rfl, Or.inl ⟨rfl, Or.inl tw_594⟩⟩
theorem cw_L_84 : qCV RL 84 RX5 yX5_thrown cX5_thrown 1 (some .int) 0 := ⟨⟨tw_622, tw_623, tw_624, tw_6, tw_625⟩, rfl, ⟨by decide +kernel, by decide +kernel, by decide +kernel⟩⟩
theorem cw_L_83 : qCV RL 83 RX5 yX5_discriminant cX5_discriminant 3 none 1 := ⟨⟨tw_626, tw_627, tw_628, tw_6, tw_629⟩, rfl, ⟨by decide +kernel, by decide +kernel, by decide +kernel⟩⟩
theorem cw_X5_35 : qCV RX5 35 RX5 yX5_set cX5_set 8 none 4 := ⟨⟨tw_632, tw_634, qB_p (q := (yX5_set, 12)) 7 (by decide +kernel), tw_6, tw_635⟩, rfl, ⟨by decide +kernel, by decide +kernel, by decide +kernel⟩⟩
theorem cw_X5_58 : qCV RX5 58 RX5 yX5_settle cX5_settle 6 none 1 := ⟨⟨tw_638, tw_640, qB_p (q := (yX5_settle, 12)) 8 (by decide +kernel), tw_6, tw_641⟩, rfl, ⟨by decide +kernel, by decide +kernel, by decide +kernel⟩⟩
theorem cw_X5_39 : qCV RX5 39 RX5 yX5_isReduced cX5_isReduced 2 (some .boolean) 1 := ⟨⟨tw_642, tw_644, qB_p (q := (yX5_isReduced, 12)) 9 (by decide +kernel), tw_6, tw_645⟩, rfl, ⟨by decide +kernel, by decide +kernel, by decide +kernel⟩⟩
theorem cw_X5_45 : qCS RX5 45 yX5_down cX5_down 6 (some .long) 2 := ⟨⟨tw_646, tw_647, tw_6, tw_648⟩, rfl, ⟨by decide +kernel, by decide +kernel, by decide +kernel⟩⟩
theorem cw_L_90 : qCV RL 90 RX5 yX5_begin cX5_begin 3 (some .int) 1 := ⟨⟨tw_649, tw_650, tw_651, tw_6, tw_652⟩, rfl, ⟨by decide +kernel, by decide +kernel, by decide +kernel⟩⟩
theorem cw_X5_101 : qCV RX5 101 RX5 yX5_isAny cX5_isAny 1 (some .boolean) 0 := ⟨⟨tw_653, tw_655, qB_p (q := (yX5_isAny, 12)) 10 (by decide +kernel), tw_6, tw_656⟩, rfl, ⟨by decide +kernel, by decide +kernel, by decide +kernel⟩⟩
theorem cw_X5_74 : qCS RX5 74 yX5_mix cX5_mix 3 (some .int) 2 := ⟨⟨tw_657, tw_658, tw_6, tw_659⟩, rfl, ⟨by decide +kernel, by decide +kernel, by decide +kernel⟩⟩
theorem cw_X5_78 : qCV RX5 78 RX5 yX5_mixForm cX5_mixForm 3 (some .int) 2 := ⟨⟨tw_661, tw_663, qB_p (q := (yX5_mixForm, 12)) 11 (by decide +kernel), tw_6, tw_664⟩, rfl, ⟨by decide +kernel, by decide +kernel, by decide +kernel⟩⟩
theorem cw_X5_105 : qCV RX5 105 RX5 yX5_raiseTo cX5_raiseTo 5 none 3 := ⟨⟨tw_666, tw_668, qB_p (q := (yX5_raiseTo, 12)) 12 (by decide +kernel), tw_6, tw_669⟩, rfl, ⟨by decide +kernel, by decide +kernel, by decide +kernel⟩⟩
theorem cw_X5_62 : qCV RX5 62 RX5 yX5_copy cX5_copy 3 none 2 := ⟨⟨tw_670, tw_672, qB_p (q := (yX5_copy, 12)) 13 (by decide +kernel), tw_6, tw_673⟩, rfl, ⟨by decide +kernel, by decide +kernel, by decide +kernel⟩⟩
theorem cw_X5_69 : qCV RX5 69 RX5 yX5_times cX5_times 10 none 3 := ⟨⟨tw_674, tw_676, qB_p (q := (yX5_times, 12)) 14 (by decide +kernel), tw_6, tw_677⟩, rfl, ⟨by decide +kernel, by decide +kernel, by decide +kernel⟩⟩
theorem cw_X5_66 : qCV RX5 66 RX5 yX5_unite cX5_unite 27 none 1 := ⟨⟨tw_678, tw_680, qB_p (q := (yX5_unite, 12)) 15 (by decide +kernel), tw_6, tw_681⟩, rfl, ⟨by decide +kernel, by decide +kernel, by decide +kernel⟩⟩
theorem cw_X5_48 : qCS RX5 48 yX5_divisor cX5_divisor 10 (some .long) 2 := ⟨⟨tw_682, tw_683, tw_6, tw_684⟩, rfl, ⟨by decide +kernel, by decide +kernel, by decide +kernel⟩⟩
theorem cw_X5_51 : qCS RX5 51 yX5_valueOf cX5_valueOf 10 (some .long) 5 := ⟨⟨tw_685, tw_686, tw_6, tw_687⟩, rfl, ⟨by decide +kernel, by decide +kernel, by decide +kernel⟩⟩
theorem cw_X5_55 : qCS RX5 55 yX5_inverse cX5_inverse 16 (some .long) 2 := ⟨⟨tw_688, tw_689, tw_6, tw_690⟩, rfl, ⟨by decide +kernel, by decide +kernel, by decide +kernel⟩⟩
theorem cw_X5_31 : qCS RX5 31 yX5_modulo cX5_modulo 6 (some .long) 2 := ⟨⟨tw_691, tw_692, tw_6, tw_693⟩, rfl, ⟨by decide +kernel, by decide +kernel, by decide +kernel⟩⟩
theorem cw_L_93 : qCV RL 93 RX5 yX5_work cX5_work 3 (some .int) 1 := ⟨⟨tw_694, tw_695, tw_696, tw_6, tw_697⟩, rfl, ⟨by decide +kernel, by decide +kernel, by decide +kernel⟩⟩
theorem cw_X5_117 : qCS RX5 117 yX5_isMany cX5_isMany 1 (some .boolean) 1 := ⟨⟨tw_698, tw_699, tw_6, tw_700⟩, rfl, ⟨by decide +kernel, by decide +kernel, by decide +kernel⟩⟩
theorem cw_X5_120 : qCV RX5 120 RX5 yX5_primeOf cX5_primeOf 5 (some .int) 3 := ⟨⟨tw_701, tw_703, qB_p (q := (yX5_primeOf, 12)) 16 (by decide +kernel), tw_6, tw_704⟩, rfl, ⟨by decide +kernel, by decide +kernel, by decide +kernel⟩⟩
theorem cw_X5_82 : qCS RX5 82 yX5_isPrime cX5_isPrime 2 (some .boolean) 1 := ⟨⟨tw_705, tw_706, tw_6, tw_707⟩, rfl, ⟨by decide +kernel, by decide +kernel, by decide +kernel⟩⟩
theorem cw_L_96 : qCV RL 96 RX5 yX5_prove cX5_prove 3 (some .int) 1 := ⟨⟨tw_708, tw_709, tw_710, tw_6, tw_711⟩, rfl, ⟨by decide +kernel, by decide +kernel, by decide +kernel⟩⟩
theorem cw_L_100 : qCV RL 100 RX5 yX5_publish cX5_publish 2 (some .int) 0 := ⟨⟨tw_712, tw_713, tw_714, tw_6, tw_715⟩, rfl, ⟨by decide +kernel, by decide +kernel, by decide +kernel⟩⟩
theorem cw_L_105 : qCV RL 105 RX5 yX5_drop cX5_drop 2 (some .boolean) 0 := ⟨⟨tw_716, tw_717, tw_718, tw_6, tw_719⟩, rfl, ⟨by decide +kernel, by decide +kernel, by decide +kernel⟩⟩
theorem cw_L_109 : qCV RL 109 RX5 yX5_rounds cX5_rounds 1 (some .int) 0 := ⟨⟨tw_720, tw_721, tw_722, tw_6, tw_723⟩, rfl, ⟨by decide +kernel, by decide +kernel, by decide +kernel⟩⟩
theorem cw_L_113 : qCV RL 113 RX5 yX5_told cX5_told 3 (some .int) 2 := ⟨⟨tw_724, tw_725, tw_726, tw_6, tw_727⟩, rfl, ⟨by decide +kernel, by decide +kernel, by decide +kernel⟩⟩
theorem cw_X5_124 : qCV RX5 124 RX5 yX5_place cX5_place 2 (some .int) 1 := ⟨⟨tw_728, tw_730, qB_p (q := (yX5_place, 12)) 17 (by decide +kernel), tw_6, tw_731⟩, rfl, ⟨by decide +kernel, by decide +kernel, by decide +kernel⟩⟩
theorem cw_L_117 : qCV RL 117 RX5 yX5_form cX5_form 4 (some .int) 3 := ⟨⟨tw_732, tw_733, tw_734, tw_6, tw_735⟩, rfl, ⟨by decide +kernel, by decide +kernel, by decide +kernel⟩⟩
theorem cw_X5_128 : qCV RX5 128 RX5 yX5_partOf cX5_partOf 3 (some .long) 2 := ⟨⟨tw_736, tw_738, qB_p (q := (yX5_partOf, 12)) 18 (by decide +kernel), tw_6, tw_739⟩, rfl, ⟨by decide +kernel, by decide +kernel, by decide +kernel⟩⟩
theorem cw_L_120 : qCV RL 120 RX5 yX5_verify cX5_verify 3 (some .boolean) 1 := ⟨⟨tw_740, tw_741, tw_742, tw_6, tw_743⟩, rfl, ⟨by decide +kernel, by decide +kernel, by decide +kernel⟩⟩
theorem cw_X5_135 : qCV RX5 135 RX5 yX5_same cX5_same 3 (some .boolean) 2 := ⟨⟨tw_744, tw_746, qB_p (q := (yX5_same, 12)) 19 (by decide +kernel), tw_6, tw_747⟩, rfl, ⟨by decide +kernel, by decide +kernel, by decide +kernel⟩⟩
theorem cw_X5_139 : qCV RX5 139 RX5 yX5_holds cX5_holds 6 (some .boolean) 5 := ⟨⟨tw_748, tw_750, qB_p (q := (yX5_holds, 12)) 20 (by decide +kernel), tw_6, tw_751⟩, rfl, ⟨by decide +kernel, by decide +kernel, by decide +kernel⟩⟩
theorem cw_X5_132 : qCS RX5 132 yX5_restOf cX5_restOf 4 (some .int) 2 := ⟨⟨tw_752, tw_753, tw_6, tw_754⟩, rfl, ⟨by decide +kernel, by decide +kernel, by decide +kernel⟩⟩
theorem cw_L_124 : qCV RL 124 RX5 yX5_put cX5_put 8 none 3 := ⟨⟨tw_755, tw_756, tw_757, tw_6, tw_758⟩, rfl, ⟨by decide +kernel, by decide +kernel, by decide +kernel⟩⟩
theorem cw_X5_145 : qCS RX5 145 yX5_isPlace cX5_isPlace 1 (some .boolean) 1 := ⟨⟨tw_761, tw_762, tw_6, tw_763⟩, rfl, ⟨by decide +kernel, by decide +kernel, by decide +kernel⟩⟩
theorem cw_L_127 : qCV RL 127 RX5 yX5_buffer cX5_buffer 3 (some .long) 2 := ⟨⟨tw_764, tw_765, tw_766, tw_6, tw_767⟩, rfl, ⟨by decide +kernel, by decide +kernel, by decide +kernel⟩⟩
theorem cw_L_131 : qCV RL 131 RX5 yX5_reduce cX5_reduce 3 none 2 := ⟨⟨tw_768, tw_769, tw_770, tw_6, tw_771⟩, rfl, ⟨by decide +kernel, by decide +kernel, by decide +kernel⟩⟩
theorem cw_L_134 : qCV RL 134 RX5 yX5_multiply cX5_multiply 4 none 3 := ⟨⟨tw_772, tw_773, tw_774, tw_6, tw_775⟩, rfl, ⟨by decide +kernel, by decide +kernel, by decide +kernel⟩⟩
theorem cw_L_137 : qCV RL 137 RX5 yX5_raise cX5_raise 4 none 3 := ⟨⟨tw_776, tw_777, tw_778, tw_6, tw_779⟩, rfl, ⟨by decide +kernel, by decide +kernel, by decide +kernel⟩⟩
theorem cw_L_140 : qCV RL 140 RX5 yX5_test cX5_test 3 (some .int) 1 := ⟨⟨tw_780, tw_781, tw_782, tw_6, tw_783⟩, rfl, ⟨by decide +kernel, by decide +kernel, by decide +kernel⟩⟩
theorem cw_L_143 : qCV RL 143 RX5 yX5_order cX5_order 3 (some .int) 1 := ⟨⟨tw_784, tw_785, tw_786, tw_6, tw_787⟩, rfl, ⟨by decide +kernel, by decide +kernel, by decide +kernel⟩⟩
theorem cw_L_146 : qCV RL 146 RX5 yX5_classes cX5_classes 8 (some .int) 0 := ⟨⟨tw_788, tw_789, tw_790, tw_6, tw_791⟩, rfl, ⟨by decide +kernel, by decide +kernel, by decide +kernel⟩⟩
end
section
section QS
variable {p : Program} {l : Launch} {e : Env} {R : Room} {s : State} {m : MethodId} {args : Array Value} {below : List Frame} {meth : Method} {c : Code} {Q : State → Prop}
variable {cc : ByteArray} {nL : Nat} {own : String} {D : va_G} {cy : Nat → ClassId} {A : Nat → Prop} {cells slots : Nat} {pc : Nat} {lv lv' : List (Nat × Value)} {st : List Value} {M : qM}
/-- an object or array of a kind -/
def qO (M : qM) (a ki : Nat) : Prop := a ∈ mP M ∧ mK M a = ki
/-- an array of a kind and a length -/
def qAr (M : qM) (a ki n : Nat) : Prop := a ∈ mP M ∧ mK M a = ki ∧ mN M a = n
/-- the same shape, other contents -/
def wD (M : qM) (I L : Nat → Nat → Int) (R : Nat → Nat → Option Nat) : qM := (mP M, mK M, mN M, I, L, R)
def wL (M : qM) (L : Nat → Nat → Int) : qM := (mP M, mK M, mN M, mI M, L, mR M)
theorem sL_wL (M : qM) (a k : Nat) (z : Int) : sL M a k z = wL M (up2 (mL M) a k z) := rfl
theorem wL_wL (M : qM) (L L' : Nat → Nat → Int) : wL (wL M L) L' = wL M L' := rfl
theorem mL_wL (M : qM) (L : Nat → Nat → Int) : mL (wL M L) = L := rfl
theorem wL_self (M : qM) : wL M (mL M) = M := rfl
theorem q_loop {α : Type} (μ : α → Nat) {P : α → Prop} (h : ∀ a, (∀ b, μ b < μ a → P b) → P a) : ∀ a, P a := fun a => (measure μ).wf.induction a h
theorem q_gt (G : qG p s m args meth c cc nL own D cy A) {index ci k a : Nat} {w v : Value} (hd : decode cc pc = .ok (.getfield index, 3)) (hf : qFL own index ci k) (ho : qO M a ci) (hc : ci < 6) (hv : (qF ci M a)[k]? = some w) (hw : w = v) (kk : qK p l e R s m args below meth c Q nL D cy A cells slots (pc + 3) lv (v :: st) (M)) : qK p l e R s m args below meth c Q nL D cy A cells slots (pc) lv (.ref a :: st) (M) := by subst hw; exact q_get G hd hf ho.1 ho.2 hc hv kk
theorem q_pL (G : qG p s m args meth c cc nL own D cy A) {index ci k a : Nat} {z : Int} (hd : decode cc pc = .ok (.putfield index, 3)) (hf : qPL own index ci k (.long (qL z))) (hfin : ∀ (C : String) (T : u_T) (N : Nat), vwCl[ci]? = some (C, T, N) → (T k).2.2.2 = true → meth.name = "<init>") (ho : qO M a ci) (hc : ci < 6) (hl : k < (qF ci M a).length) (he : (qF ci M a).set k (.long (qL z)) = qF ci (sL M a k z) a) (kk : qK p l e R s m args below meth c Q nL D cy A cells slots (pc + 3) lv (st) (sL M a k z)) : qK p l e R s m args below meth c Q nL D cy A cells slots (pc) lv (.long (qL z) :: .ref a :: st) (M) := q_put (M' := sL M a k z) G hd hf hfin ho.1 ho.2 hc hl ho.2 rfl he (fun _ hb => qC_sL hb) kk
theorem q_pI (G : qG p s m args meth c cc nL own D cy A) {index ci k a : Nat} {z : Int} (hd : decode cc pc = .ok (.putfield index, 3)) (hf : qPL own index ci k (.int (qI z))) (hfin : ∀ (C : String) (T : u_T) (N : Nat), vwCl[ci]? = some (C, T, N) → (T k).2.2.2 = true → meth.name = "<init>") (ho : qO M a ci) (hc : ci < 6) (hl : k < (qF ci M a).length) (he : (qF ci M a).set k (.int (qI z)) = qF ci (sI M a k z) a) (kk : qK p l e R s m args below meth c Q nL D cy A cells slots (pc + 3) lv (st) (sI M a k z)) : qK p l e R s m args below meth c Q nL D cy A cells slots (pc) lv (.int (qI z) :: .ref a :: st) (M) := q_put (M' := sI M a k z) G hd hf hfin ho.1 ho.2 hc hl ho.2 rfl he (fun _ hb => qC_sI hb) kk
theorem q_pR (G : qG p s m args meth c cc nL own D cy A) {index ci k a : Nat} {z : Option Nat} (hd : decode cc pc = .ok (.putfield index, 3)) (hf : qPL own index ci k (va_rf z)) (hfin : ∀ (C : String) (T : u_T) (N : Nat), vwCl[ci]? = some (C, T, N) → (T k).2.2.2 = true → meth.name = "<init>") (ho : qO M a ci) (hc : ci < 6) (hl : k < (qF ci M a).length) (he : (qF ci M a).set k (va_rf z) = qF ci (sR M a k z) a) (kk : qK p l e R s m args below meth c Q nL D cy A cells slots (pc + 3) lv (st) (sR M a k z)) : qK p l e R s m args below meth c Q nL D cy A cells slots (pc) lv (va_rf z :: .ref a :: st) (M) := q_put (M' := sR M a k z) G hd hf hfin ho.1 ho.2 hc hl ho.2 rfl he (fun _ hb => qC_sR hb) kk
theorem q_obj (G : qG p s m args meth c cc nL own D cy A) {index a : Nat} (hd : decode cc pc = .ok (.invokespecial index, 3)) (hw : Cond.methodLink own index objectInit ∈ qB) (hf : 1 ≤ R.frames) (hl : (st.map fun v => v.category).sum + 12 ≤ R.locals) (kk : qK p l e R s m args below meth c Q nL D cy A cells slots (pc + 3) lv (st) (M)) : qK p l e R s m args below meth c Q nL D cy A cells slots (pc) lv (.ref a :: st) (M) := by
  intro H locs ls hP hD hS hL
  exact W.objInit G.1 G.2.1 G.2.2.2.1 (G.2.2.2.2.1 _ hw) (G.2.2.2.2.1 _ tw_21) (G.2.2.2.2.1 _ tw_22) rfl (by rw [G.2.2.1]; exact hL.1) rfl hd hf (by show 2 * 0 + _ + 12 ≤ _; omega) (kk H locs ls hP hD hS hL)
theorem q_min (G : qG p s m args meth c cc nL own D cy A) {index : Nat} {x y : Int} (hd : decode cc pc = .ok (.invokestatic index, 3)) (hw : Cond.methodLink own index Lib.Math.min.name ∈ qB) (hx : r32 x) (hy : r32 y) (hf : 1 ≤ R.frames) (hl : (st.map fun v => v.category).sum + 13 ≤ R.locals) (hc : cells ≤ R.cells) (hs : slots ≤ R.slots) (kk : qK p l e R s m args below meth c Q nL D cy A cells slots (pc + 3) lv (.int (qI (if y < x then y else x)) :: st) (M)) : qK p l e R s m args below meth c Q nL D cy A cells slots (pc) lv (.int (qI y) :: .int (qI x) :: st) (M) := by
  intro H locs ls hP hD hS hL
  refine va_mmin G.1 G.2.1 (G.2.2.1.trans hL.1.symm) G.2.2.2.1 (G.2.2.2.2.1 _ hw) (G.2.2.2.2.1 _ tw_363) (G.2.2.2.2.1 _ tw_12) (G.2.2.2.2.1 _ tw_364) hf hl hc hs hd ?_
  have e9 : (if qI y < qI x then qI y else qI x) = qI (if y < x then y else x) := by
    by_cases h : y < x
    · rw [if_pos h, if_pos ((qI_lt hy hx).mpr h)]
    · rw [if_neg h, if_neg (fun h8 => h ((qI_lt hy hx).mp h8))]
  rw [e9]
  exact kk H locs ls hP hD hS hL
theorem q_topL {z z2 : Int} (h : z = z2) (kk : qK p l e R s m args below meth c Q nL D cy A cells slots (pc) lv (.long (qL z2) :: st) (M)) : qK p l e R s m args below meth c Q nL D cy A cells slots (pc) lv (.long (qL z) :: st) (M) := by subst h; exact kk
theorem q_nmL {z : Int} (kk : ∀ z2, z2 = z → qK p l e R s m args below meth c Q nL D cy A cells slots (pc) lv (.long (qL z2) :: st) (M)) : qK p l e R s m args below meth c Q nL D cy A cells slots (pc) lv (.long (qL z) :: st) (M) := kk z rfl
theorem q_topI {z z2 : Int} (h : z = z2) (kk : qK p l e R s m args below meth c Q nL D cy A cells slots (pc) lv (.int (qI z2) :: st) (M)) : qK p l e R s m args below meth c Q nL D cy A cells slots (pc) lv (.int (qI z) :: st) (M) := by subst h; exact kk
theorem q_nmI {z : Int} (kk : ∀ z2, z2 = z → qK p l e R s m args below meth c Q nL D cy A cells slots (pc) lv (.int (qI z2) :: st) (M)) : qK p l e R s m args below meth c Q nL D cy A cells slots (pc) lv (.int (qI z) :: st) (M) := kk z rfl
theorem q_mem {M2 : qM} (h : M = M2) (kk : qK p l e R s m args below meth c Q nL D cy A cells slots (pc) lv (st) (M2)) : qK p l e R s m args below meth c Q nL D cy A cells slots (pc) lv (st) (M) := by subst h; exact kk
theorem q_st {st2 : List Value} (h : st = st2) (kk : qK p l e R s m args below meth c Q nL D cy A cells slots (pc) lv (st2) (M)) : qK p l e R s m args below meth c Q nL D cy A cells slots (pc) lv (st) (M) := by subst h; exact kk
theorem q_lvs (ks : List Nat) (h : lv_pick lv ks = lv') (kk : qK p l e R s m args below meth c Q nL D cy A cells slots (pc) lv' (st) (M)) : qK p l e R s m args below meth c Q nL D cy A cells slots (pc) lv (st) (M) := fun H locs ls hP hD hS hL => kk H locs ls hP hD hS (lv_sub hL ks h)
theorem q_wide {k n : Nat} (h1 : cells ≤ k) (h2 : slots ≤ n) (kk : qK p l e R s m args below meth c Q nL D cy A k n (pc) lv (st) (M)) : qK p l e R s m args below meth c Q nL D cy A cells slots (pc) lv (st) (M) := fun H locs ls hP hD hS hL => W.widen h1 h2 (kk H locs ls hP hD hS hL)
def qXn : List String := ["java/lang/RuntimeException", "java/lang/Exception"]
/-- the words of a throw -/
def qTh (own : String) (ik ic is : Nat) (cls text : String) : Prop := (Cond.classLink own ik cls ∈ qB ∧ Cond.initialized cls ∈ qB) ∧ own = RX4 ∧ (is, text) ∈ qStr ∧ Bundle.fit cls = true ∧ (∀ w ∈ vx_atS own ic cls qXn, (w ∈ qB ∨ w ∈ qX) ∧ vx_ot w = true)
theorem qX_use {w : Cond} (h : w ∈ qX) (ho : vx_ot w = true) {a : Array Value} {s : State} (hw : va_Nw w s) : w.before a s = true := by
  simp only [vx_ot, Bool.or_eq_true] at ho
  rcases ho with ho | ho
  · exact va_tabs ho rfl hw
  · exact word_at (State.WarmedH.refl s) (good_of_word ho) hw
theorem q_throw {ik ic is mc ms : Nat} {cls text : String} {P0 : List Nat} {Qv : Option Value → qM → Prop} {X : String → Prop} (G : qG p s m args meth c cc nL own D cy (qA (mP M) s.heap.size)) (hl : l.stackTraces = false) (hw : qTh own ik ic is cls text) (hX : X cls)
    (d0 : decode cc pc = .ok (.new ik, 3)) (d3 : decode cc (pc + 3) = .ok (.dup, 1)) (d4 : decode cc (pc + 4) = .ok (.ldc is, 2)) (d6 : decode cc (pc + 6) = .ok (.invokespecial ic, 3)) (d9 : decode cc (pc + 9) = .ok (.athrow, 1)) (ht : ∀ x ∈ c.exceptionTable.toList, False)
    (hRf : 5 < R.frames) (hRl : (st.map fun v => v.category).sum + 82 ≤ R.locals) (hRc : cells + 1 ≤ R.cells) (hRs : slots + 6 ≤ R.slots) (hc : cells + 1 ≤ mc) (hs : slots + 6 ≤ ms) : qK p l e R s m args below meth c (vx_MQ below (qQ D cy (mP M) Qv) (qXC D cy M X) args s mc ms (qA (mP M) s.heap.size)) nL D cy (qA (mP M) s.heap.size) cells slots (pc) lv (st) (M) := by
  intro H locs ls hP hD hS hL
  obtain ⟨⟨w1, w2⟩, rfl, w4, w5, w6⟩ := hw
  obtain ⟨hK, hN, hU, hZ, hstr⟩ := G.2.2.2.2.2.2.1
  obtain ⟨sa, hsa⟩ := hstr _ w4
  refine vx_throwS (names := qXn) (A := qA (mP M) s.heap.size) G.1 G.2.1 hl G.2.2.2.1 w5 (by decide +kernel) (G.2.2.2.2.1 _ w1) (G.2.2.2.2.1 _ w2) hsa (fun w h => ?_) (fun w h => ?_) hU hZ hS (hL.1.trans G.2.2.1.symm) d0 d3 d4 d6 d9 (fun x h => absurd (ht x h) id) (show 2 + 3 < _ by omega) (show _ + (13 * (2 + 1) + 43) ≤ _ by omega) hRc hRs G.2.2.2.2.2.1 (fun t hvm hz hk => ?_) hS.2.2 hc hs
  · rcases (w6 w h).1 with h1 | h1
    · exact G.2.2.2.2.1 _ h1
    · exact qX_use h1 (w6 w h).2 (hN _ h1)
  · rcases List.mem_cons.mp h with rfl | h
    · rfl
    · rcases List.mem_cons.mp h with rfl | h
      · rfl
      · exact (w6 w h).2
  · refine ⟨hX, fun k q hq => ?_, Nat.le_trans hS.1 hz, fun q h1 h2 => ?_⟩
    · exact (hP k q hq).kept (hk q.1 (hP k q hq).lt)
    · rw [hk q (Nat.lt_of_lt_of_le h1 hS.1)]; exact hS.2.1 q h1 h2
theorem q_throwW {ik ic is mc ms : Nat} {cls text : String} {P0 : List Nat} {Qv : Option Value → qM → Prop} {X : String → Prop} (G : qG p s m args meth c cc nL own D cy (qA (mP M) s.heap.size)) (hl : l.stackTraces = false) (hw : qTh own ik ic is cls text) (hX : X cls)
    (d0 : decode cc pc = .ok (.new ik, 3)) (d3 : decode cc (pc + 3) = .ok (.dup, 1)) (d4 : decode cc (pc + 4) = .ok (.ldc_w is, 3)) (d6 : decode cc (pc + 7) = .ok (.invokespecial ic, 3)) (d9 : decode cc (pc + 10) = .ok (.athrow, 1)) (ht : ∀ x ∈ c.exceptionTable.toList, False)
    (hRf : 5 < R.frames) (hRl : (st.map fun v => v.category).sum + 82 ≤ R.locals) (hRc : cells + 1 ≤ R.cells) (hRs : slots + 6 ≤ R.slots) (hc : cells + 1 ≤ mc) (hs : slots + 6 ≤ ms) : qK p l e R s m args below meth c (vx_MQ below (qQ D cy (mP M) Qv) (qXC D cy M X) args s mc ms (qA (mP M) s.heap.size)) nL D cy (qA (mP M) s.heap.size) cells slots (pc) lv (st) (M) := by
  intro H locs ls hP hD hS hL
  obtain ⟨⟨w1, w2⟩, rfl, w4, w5, w6⟩ := hw
  obtain ⟨hK, hN, hU, hZ, hstr⟩ := G.2.2.2.2.2.2.1
  obtain ⟨sa, hsa⟩ := hstr _ w4
  refine vx_throwSW (names := qXn) (A := qA (mP M) s.heap.size) G.1 G.2.1 hl G.2.2.2.1 w5 (by decide +kernel) (G.2.2.2.2.1 _ w1) (G.2.2.2.2.1 _ w2) hsa (fun w h => ?_) (fun w h => ?_) hU hZ hS (hL.1.trans G.2.2.1.symm) d0 d3 d4 d6 d9 (fun x h => absurd (ht x h) id) (show 2 + 3 < _ by omega) (show _ + (13 * (2 + 1) + 43) ≤ _ by omega) hRc hRs G.2.2.2.2.2.1 (fun t hvm hz hk => ?_) hS.2.2 hc hs
  · rcases (w6 w h).1 with h1 | h1
    · exact G.2.2.2.2.1 _ h1
    · exact qX_use h1 (w6 w h).2 (hN _ h1)
  · rcases List.mem_cons.mp h with rfl | h
    · rfl
    · rcases List.mem_cons.mp h with rfl | h
      · rfl
      · exact (w6 w h).2
  · refine ⟨hX, fun k q hq => ?_, Nat.le_trans hS.1 hz, fun q h1 h2 => ?_⟩
    · exact (hP k q hq).kept (hk q.1 (hP k q hq).lt)
    · rw [hk q (Nat.lt_of_lt_of_le h1 hS.1)]; exact hS.2.1 q h1 h2
/-- not caught here -/
theorem q_outX {mc ms : Nat} {Qv : Option Value → qM → Prop} {X : String → Prop} {E : String} {ce : Cell} {q : Addr} {H1 : Heap} {locs1 : List Loc} {ls : Array Slot} (G : qG p s m args meth c cc nL own D cy (qA (mP M) s.heap.size)) (ht : ∀ x ∈ c.exceptionTable.toList, False) (hX : X E) (hP : va_P D vwCl (qW cy M) H1) (hS : va_S (qA (mP M) s.heap.size) s.heap H1 locs1) (h1 : H1[q]? = some ce) (h2 : ce.vm = .none) (h3 : s.vm.findClass E = some ce.cls) (hc : cells ≤ mc) (hs : slots ≤ ms) :
    vx_W p l e R s m args below meth c H1 locs1 cells slots (vx_MQ below (qQ D cy (mP M) Qv) (qXC D cy M X) args s mc ms (qA (mP M) s.heap.size)) (F0 m pc ls st) q :=
  vx_out (fun x h => absurd (ht x h) id) G.2.2.2.2.2.1 h1 h2 h3 (fun t ht9 _ => ⟨hX, by rw [ht9]; exact hP, hS.F ht9⟩) hS.2.2 hc hs
end QS
theorem qth_51 : ∀ w ∈ vx_atS RX4 51 "java/lang/IllegalArgumentException" qXn, (w ∈ qB ∨ w ∈ qX) ∧ vx_ot w = true := by decide +kernel
theorem qth_58 : ∀ w ∈ vx_atS RX4 58 "java/lang/IllegalStateException" qXn, (w ∈ qB ∨ w ∈ qX) ∧ vx_ot w = true := by decide +kernel
theorem qth_149 : ∀ w ∈ vx_atS RX4 149 "java/lang/IndexOutOfBoundsException" qXn, (w ∈ qB ∨ w ∈ qX) ∧ vx_ot w = true := by decide +kernel
end
section
/-! what the leaf methods answer -/
abbrev isRd (a b c : Int) : Prop := -a < b ∧ b ≤ a ∧ a ≤ c ∧ (a = c → 0 ≤ b)
abbrev r63 (z : Int) : Prop := -9223372036854775807 ≤ z ∧ z < 9223372036854775808
def quo (p q : Int) : Int := if q = 0 then 0 else p.tdiv q
def rmd (p q : Int) : Int := if q = 0 then 0 else if p.tmod q < 0 then p.tmod q + q else p.tmod q
theorem tmod_abs (x y : Int) : (x.tmod y).natAbs ≤ x.natAbs := by
  rw [Int.natAbs_tmod]; exact Nat.mod_le _ _
theorem r64_tmod {x y : Int} (h : r64 x) : r64 (x.tmod y) := by
  have h1 := tmod_abs x y
  rcases Int.le_total 0 x with h0 | h0
  · have := Int.tmod_nonneg y h0; omega
  · have h3 : (-x).tmod y = -(x.tmod y) := Int.neg_tmod x y
    have := Int.tmod_nonneg (a := -x) y (by omega); omega
theorem r32_tmod {x y : Int} (h : r32 x) : r32 (x.tmod y) := by
  have h1 := tmod_abs x y
  rcases Int.le_total 0 x with h0 | h0
  · have := Int.tmod_nonneg y h0; omega
  · have h3 : (-x).tmod y = -(x.tmod y) := Int.neg_tmod x y
    have := Int.tmod_nonneg (a := -x) y (by omega); omega
/-- to mix, as numbers -/
def mixN (h v : Int) : Int := qxor (qxor h v * 1540483477) (qushr (qxor h v * 1540483477) 15)
theorem mixN_r (h v : Int) : r32 (mixN h v) := qxor_r _ _
set_option maxRecDepth 100000 in
set_option maxHeartbeats 4000000 in
theorem c_X4_quotient (l : Launch) (D : va_G) (cy : Nat → ClassId) (M : qM) (x y : Int) (hx : r64 x) (hy : r64 y) : qCt l D cy yX4_quotient cX4_quotient 4 (some .long) { frames := 0, cells := 0, slots := 0, locals := 0 } 0 0 [.long (qL (x)), .long (qL (y))] M (fun v M' => v = some (.long (qL (quo x y))) ∧ M' = M) := by
  refine qCt_of (lv0 := [(0, .long (qL (x))), (2, .long (qL (y)))]) (by decide) rfl (Nat.le_of_ble_eq_true rfl) ?_
  intro p e s m args below meth c G hname hret
  refine q_lload_n G 1 2 dX4_quotient_0 rfl rfl ?_
  refine q_lconst (z := 0) G dX4_quotient_1 (by decide +kernel) ?_
  refine q_lcmp_ne (tgt := 10) G dX4_quotient_2 dX4_quotient_3 (by decide) (by first | assumption | omega) (by first | assumption | omega) (fun c1 => ?_) (fun c1 => ?_)
  · refine q_lload_n G 0 0 dX4_quotient_10 rfl rfl ?_
    refine q_lload_n G 1 2 dX4_quotient_11 rfl rfl ?_
    refine q_ldiv G dX4_quotient_12 (by first | assumption | omega) (by first | assumption | omega) (by first | assumption | omega) ?_
    exact q_lret G dX4_quotient_13 hret (by omega) (by omega) (⟨by unfold quo; first | (rw [if_pos]; omega) | (rw [if_neg]; omega), rfl⟩)
  · refine q_lconst (z := 0) G dX4_quotient_6 (by decide +kernel) ?_
    refine q_goto (tgt := 13) G dX4_quotient_7 (by decide) ?_
    exact q_lret G dX4_quotient_13 hret (by omega) (by omega) (⟨by unfold quo; first | (rw [if_pos]; omega) | (rw [if_neg]; omega), rfl⟩)
set_option maxRecDepth 100000 in
set_option maxHeartbeats 4000000 in
theorem c_X4_remainder (l : Launch) (D : va_G) (cy : Nat → ClassId) (M : qM) (x y : Int) (hx : r64 x) (hy : r64 y) : qCt l D cy yX4_remainder cX4_remainder 6 (some .long) { frames := 0, cells := 0, slots := 0, locals := 0 } 0 0 [.long (qL (x)), .long (qL (y))] M (fun v M' => v = some (.long (qL (rmd x y))) ∧ M' = M) := by
  refine qCt_of (lv0 := [(0, .long (qL (x))), (2, .long (qL (y)))]) (by decide) rfl (Nat.le_of_ble_eq_true rfl) ?_
  intro p e s m args below meth c G hname hret
  refine q_lload_n G 1 2 dX4_remainder_0 rfl rfl ?_
  refine q_lconst (z := 0) G dX4_remainder_1 (by decide +kernel) ?_
  refine q_lcmp_ne (tgt := 10) G dX4_remainder_2 dX4_remainder_3 (by decide) (by first | assumption | omega | exact r64_tmod (by assumption)) (by first | assumption | omega | exact r64_tmod (by assumption)) (fun c1 => ?_) (fun c1 => ?_)
  · refine q_lload_n G 0 0 dX4_remainder_10 rfl rfl ?_
    refine q_lload_n G 1 2 dX4_remainder_11 rfl rfl ?_
    refine q_lrem G dX4_remainder_12 (by first | assumption | omega | exact r64_tmod (by assumption)) (by first | assumption | omega | exact r64_tmod (by assumption)) (by first | assumption | omega | exact r64_tmod (by assumption)) ?_
    refine q_lstore (lv' := [(4, .long (qL ((x).tmod y))), (0, .long (qL (x))), (2, .long (qL (y)))]) G dX4_remainder_13 (by decide) rfl ?_
    refine q_lload G 0 dX4_remainder_15 rfl ?_
    refine q_lconst (z := 0) G dX4_remainder_17 (by decide +kernel) ?_
    refine q_lcmp_ge (tgt := 29) G dX4_remainder_18 dX4_remainder_19 (by decide) (by first | assumption | omega | exact r64_tmod (by assumption)) (by first | assumption | omega | exact r64_tmod (by assumption)) (fun c2 => ?_) (fun c2 => ?_)
    · refine q_lload G 0 dX4_remainder_29 rfl ?_
      exact q_lret G dX4_remainder_31 hret (by omega) (by omega) (⟨by unfold rmd; first | (exfalso; omega) | (rw [if_pos]; omega) | (rw [if_neg, if_pos] <;> omega) | (rw [if_neg, if_neg] <;> omega), rfl⟩)
    · refine q_lload G 0 dX4_remainder_22 rfl ?_
      refine q_lload_n G 2 2 dX4_remainder_24 rfl rfl ?_
      refine q_ladd G dX4_remainder_25 ?_
      refine q_goto (tgt := 31) G dX4_remainder_26 (by decide) ?_
      exact q_lret G dX4_remainder_31 hret (by omega) (by omega) (⟨by unfold rmd; first | (exfalso; omega) | (rw [if_pos]; omega) | (rw [if_neg, if_pos] <;> omega) | (rw [if_neg, if_neg] <;> omega), rfl⟩)
  · refine q_lconst (z := 0) G dX4_remainder_6 (by decide +kernel) ?_
    refine q_goto (tgt := 13) G dX4_remainder_7 (by decide) ?_
    refine q_lstore (lv' := [(4, .long (qL (0))), (0, .long (qL (x))), (2, .long (qL (y)))]) G dX4_remainder_13 (by decide) rfl ?_
    refine q_lload G 0 dX4_remainder_15 rfl ?_
    refine q_lconst (z := 0) G dX4_remainder_17 (by decide +kernel) ?_
    refine q_lcmp_ge (tgt := 29) G dX4_remainder_18 dX4_remainder_19 (by decide) (by first | assumption | omega | exact r64_tmod (by assumption)) (by first | assumption | omega | exact r64_tmod (by assumption)) (fun c3 => ?_) (fun c3 => ?_)
    · refine q_lload G 0 dX4_remainder_29 rfl ?_
      exact q_lret G dX4_remainder_31 hret (by omega) (by omega) (⟨by unfold rmd; first | (exfalso; omega) | (rw [if_pos]; omega) | (rw [if_neg, if_pos] <;> omega) | (rw [if_neg, if_neg] <;> omega), rfl⟩)
    · refine q_lload G 0 dX4_remainder_22 rfl ?_
      refine q_lload_n G 2 2 dX4_remainder_24 rfl rfl ?_
      refine q_ladd G dX4_remainder_25 ?_
      refine q_goto (tgt := 31) G dX4_remainder_26 (by decide) ?_
      exact q_lret G dX4_remainder_31 hret (by omega) (by omega) (⟨by unfold rmd; first | (exfalso; omega) | (rw [if_pos]; omega) | (rw [if_neg, if_pos] <;> omega) | (rw [if_neg, if_neg] <;> omega), rfl⟩)
set_option maxRecDepth 100000 in
set_option maxHeartbeats 4000000 in
theorem c_X4_mixed (l : Launch) (D : va_G) (cy : Nat → ClassId) (M : qM) (x y : Int) : qCt l D cy yX4_mixed cX4_mixed 3 (some .int) { frames := 0, cells := 0, slots := 0, locals := 0 } 0 0 [.int (qI (x)), .int (qI (y))] M (fun v M' => v = some (.int (qI (mixN x y))) ∧ M' = M) := by
  refine qCt_of (lv0 := [(0, .int (qI (x))), (1, .int (qI (y)))]) (by decide) rfl (Nat.le_of_ble_eq_true rfl) ?_
  intro p e s m args below meth c G hname hret
  refine q_iload_n G 0 0 dX4_mixed_0 rfl rfl ?_
  refine q_iload_n G 1 1 dX4_mixed_1 rfl rfl ?_
  refine q_ixor G dX4_mixed_2 ?_
  refine q_ldc (z := 1540483477) G dX4_mixed_3 tw_329 (by decide +kernel) ?_
  refine q_imul G dX4_mixed_5 ?_
  refine q_istore_n (lv' := [(2, .int (qI ((qxor x y) * 1540483477))), (0, .int (qI (x))), (1, .int (qI (y)))]) G 2 dX4_mixed_6 rfl (by decide) rfl ?_
  refine q_iload_n G 0 2 dX4_mixed_7 rfl rfl ?_
  refine q_iload_n G 0 2 dX4_mixed_8 rfl rfl ?_
  refine q_bipush G dX4_mixed_9 (by decide +kernel) ?_
  refine q_iushr G dX4_mixed_11 ?_
  refine q_ixor G dX4_mixed_12 ?_
  exact q_iret G dX4_mixed_13 hret (by omega) (by omega) (⟨rfl, rfl⟩)
set_option maxRecDepth 100000 in
set_option maxHeartbeats 4000000 in
theorem c_X1_isReduced (l : Launch) (D : va_G) (cy : Nat → ClassId) (M : qM) (h : Nat) (hO : qO M h 1) (ha : r63 (mL M h 0)) (hb : r63 (mL M h 1)) (hc : r63 (mL M h 2)) : qCt l D cy yX1_isReduced cX1_isReduced 1 (some .boolean) { frames := 0, cells := 0, slots := 0, locals := 0 } 0 0 [.ref h] M (fun v M' => v = some (.int (qI (if isRd (mL M h 0) (mL M h 1) (mL M h 2) then 1 else 0))) ∧ M' = M) := by
  refine qCt_of (lv0 := [(0, .ref h)]) (by decide) rfl (Nat.le_of_ble_eq_true rfl) ?_
  intro p e s m args below meth c G hname hret
  refine q_aload_n G 0 0 dX1_isReduced_0 rfl rfl ?_
  refine q_gt (v := .long (qL (mL M h 0))) G dX1_isReduced_1 fl_X1_7 hO (by decide) rfl rfl ?_
  refine q_lneg G dX1_isReduced_4 ?_
  refine q_aload_n G 0 0 dX1_isReduced_5 rfl rfl ?_
  refine q_gt (v := .long (qL (mL M h 1))) G dX1_isReduced_6 fl_X1_13 hO (by decide) rfl rfl ?_
  refine q_lcmp_ge (tgt := 62) G dX1_isReduced_9 dX1_isReduced_10 (by decide) (by first | assumption | omega) (by first | assumption | omega) (fun c1 => ?_) (fun c1 => ?_)
  · refine q_iconst G dX1_isReduced_62 ?_
    exact q_zret G dX1_isReduced_63 hret (by decide +kernel) (by omega) (by omega) (⟨by first | (rw [if_pos]; omega) | (rw [if_neg]; omega), rfl⟩)
  · refine q_aload_n G 0 0 dX1_isReduced_13 rfl rfl ?_
    refine q_gt (v := .long (qL (mL M h 1))) G dX1_isReduced_14 fl_X1_13 hO (by decide) rfl rfl ?_
    refine q_aload_n G 0 0 dX1_isReduced_17 rfl rfl ?_
    refine q_gt (v := .long (qL (mL M h 0))) G dX1_isReduced_18 fl_X1_7 hO (by decide) rfl rfl ?_
    refine q_lcmp_gt (tgt := 62) G dX1_isReduced_21 dX1_isReduced_22 (by decide) (by first | assumption | omega) (by first | assumption | omega) (fun c2 => ?_) (fun c2 => ?_)
    · refine q_iconst G dX1_isReduced_62 ?_
      exact q_zret G dX1_isReduced_63 hret (by decide +kernel) (by omega) (by omega) (⟨by first | (rw [if_pos]; omega) | (rw [if_neg]; omega), rfl⟩)
    · refine q_aload_n G 0 0 dX1_isReduced_25 rfl rfl ?_
      refine q_gt (v := .long (qL (mL M h 0))) G dX1_isReduced_26 fl_X1_7 hO (by decide) rfl rfl ?_
      refine q_aload_n G 0 0 dX1_isReduced_29 rfl rfl ?_
      refine q_gt (v := .long (qL (mL M h 2))) G dX1_isReduced_30 fl_X1_16 hO (by decide) rfl rfl ?_
      refine q_lcmp_gt (tgt := 62) G dX1_isReduced_33 dX1_isReduced_34 (by decide) (by first | assumption | omega) (by first | assumption | omega) (fun c3 => ?_) (fun c3 => ?_)
      · refine q_iconst G dX1_isReduced_62 ?_
        exact q_zret G dX1_isReduced_63 hret (by decide +kernel) (by omega) (by omega) (⟨by first | (rw [if_pos]; omega) | (rw [if_neg]; omega), rfl⟩)
      · refine q_aload_n G 0 0 dX1_isReduced_37 rfl rfl ?_
        refine q_gt (v := .long (qL (mL M h 0))) G dX1_isReduced_38 fl_X1_7 hO (by decide) rfl rfl ?_
        refine q_aload_n G 0 0 dX1_isReduced_41 rfl rfl ?_
        refine q_gt (v := .long (qL (mL M h 2))) G dX1_isReduced_42 fl_X1_16 hO (by decide) rfl rfl ?_
        refine q_lcmp_ne (tgt := 58) G dX1_isReduced_45 dX1_isReduced_46 (by decide) (by first | assumption | omega) (by first | assumption | omega) (fun c4 => ?_) (fun c4 => ?_)
        · refine q_iconst G dX1_isReduced_58 ?_
          refine q_goto (tgt := 63) G dX1_isReduced_59 (by decide) ?_
          exact q_zret G dX1_isReduced_63 hret (by decide +kernel) (by omega) (by omega) (⟨by first | (rw [if_pos]; omega) | (rw [if_neg]; omega), rfl⟩)
        · refine q_aload_n G 0 0 dX1_isReduced_49 rfl rfl ?_
          refine q_gt (v := .long (qL (mL M h 1))) G dX1_isReduced_50 fl_X1_13 hO (by decide) rfl rfl ?_
          refine q_lconst (z := 0) G dX1_isReduced_53 (by decide +kernel) ?_
          refine q_lcmp_lt (tgt := 62) G dX1_isReduced_54 dX1_isReduced_55 (by decide) (by first | assumption | omega) (by first | assumption | omega) (fun c5 => ?_) (fun c5 => ?_)
          · refine q_iconst G dX1_isReduced_62 ?_
            exact q_zret G dX1_isReduced_63 hret (by decide +kernel) (by omega) (by omega) (⟨by first | (rw [if_pos]; omega) | (rw [if_neg]; omega), rfl⟩)
          · refine q_iconst G dX1_isReduced_58 ?_
            refine q_goto (tgt := 63) G dX1_isReduced_59 (by decide) ?_
            exact q_zret G dX1_isReduced_63 hret (by decide +kernel) (by omega) (by omega) (⟨by first | (rw [if_pos]; omega) | (rw [if_neg]; omega), rfl⟩)
set_option maxRecDepth 100000 in
set_option maxHeartbeats 4000000 in
theorem c_X1_isSame (l : Launch) (D : va_G) (cy : Nat → ClassId) (M : qM) (h g : Nat) (hO : qO M h 1) (hG : qO M g 1) (h0 : r64 (mL M h 0)) (h1 : r64 (mL M h 1)) (h2 : r64 (mL M h 2)) (g0 : r64 (mL M g 0)) (g1 : r64 (mL M g 1)) (g2 : r64 (mL M g 2)) : qCt l D cy yX1_isSame cX1_isSame 2 (some .boolean) { frames := 0, cells := 0, slots := 0, locals := 0 } 0 0 [.ref h, .ref g] M (fun v M' => v = some (.int (qI (if mL M h 0 = mL M g 0 ∧ mL M h 1 = mL M g 1 ∧ mL M h 2 = mL M g 2 then 1 else 0))) ∧ M' = M) := by
  refine qCt_of (lv0 := [(0, .ref h), (1, .ref g)]) (by decide) rfl (Nat.le_of_ble_eq_true rfl) ?_
  intro p e s m args below meth c G hname hret
  refine q_aload_n G 0 0 dX1_isSame_0 rfl rfl ?_
  refine q_gt (v := .long (qL (mL M h 0))) G dX1_isSame_1 fl_X1_7 hO (by decide) rfl rfl ?_
  refine q_aload_n G 1 1 dX1_isSame_4 rfl rfl ?_
  refine q_gt (v := .long (qL (mL M g 0))) G dX1_isSame_5 fl_X1_7 hG (by decide) rfl rfl ?_
  refine q_lcmp_ne (tgt := 40) G dX1_isSame_8 dX1_isSame_9 (by decide) (by first | assumption | omega) (by first | assumption | omega) (fun c1 => ?_) (fun c1 => ?_)
  · refine q_iconst G dX1_isSame_40 ?_
    exact q_zret G dX1_isSame_41 hret (by decide +kernel) (by omega) (by omega) (⟨by first | (rw [if_pos]; omega) | (rw [if_neg]; omega), rfl⟩)
  · refine q_aload_n G 0 0 dX1_isSame_12 rfl rfl ?_
    refine q_gt (v := .long (qL (mL M h 1))) G dX1_isSame_13 fl_X1_13 hO (by decide) rfl rfl ?_
    refine q_aload_n G 1 1 dX1_isSame_16 rfl rfl ?_
    refine q_gt (v := .long (qL (mL M g 1))) G dX1_isSame_17 fl_X1_13 hG (by decide) rfl rfl ?_
    refine q_lcmp_ne (tgt := 40) G dX1_isSame_20 dX1_isSame_21 (by decide) (by first | assumption | omega) (by first | assumption | omega) (fun c2 => ?_) (fun c2 => ?_)
    · refine q_iconst G dX1_isSame_40 ?_
      exact q_zret G dX1_isSame_41 hret (by decide +kernel) (by omega) (by omega) (⟨by first | (rw [if_pos]; omega) | (rw [if_neg]; omega), rfl⟩)
    · refine q_aload_n G 0 0 dX1_isSame_24 rfl rfl ?_
      refine q_gt (v := .long (qL (mL M h 2))) G dX1_isSame_25 fl_X1_16 hO (by decide) rfl rfl ?_
      refine q_aload_n G 1 1 dX1_isSame_28 rfl rfl ?_
      refine q_gt (v := .long (qL (mL M g 2))) G dX1_isSame_29 fl_X1_16 hG (by decide) rfl rfl ?_
      refine q_lcmp_ne (tgt := 40) G dX1_isSame_32 dX1_isSame_33 (by decide) (by first | assumption | omega) (by first | assumption | omega) (fun c3 => ?_) (fun c3 => ?_)
      · refine q_iconst G dX1_isSame_40 ?_
        exact q_zret G dX1_isSame_41 hret (by decide +kernel) (by omega) (by omega) (⟨by first | (rw [if_pos]; omega) | (rw [if_neg]; omega), rfl⟩)
      · refine q_iconst G dX1_isSame_36 ?_
        refine q_goto (tgt := 41) G dX1_isSame_37 (by decide) ?_
        exact q_zret G dX1_isSame_41 hret (by decide +kernel) (by omega) (by omega) (⟨by first | (rw [if_pos]; omega) | (rw [if_neg]; omega), rfl⟩)
set_option maxRecDepth 100000 in
set_option maxHeartbeats 4000000 in
theorem c_X1_part (l : Launch) (D : va_G) (cy : Nat → ClassId) (M : qM) (h : Nat) (k : Int) (hO : qO M h 1) (hk : r32 k) : qCt l D cy yX1_part cX1_part 2 (some .long) { frames := 0, cells := 0, slots := 0, locals := 0 } 0 0 [.ref h, .int (qI (k))] M (fun v M' => v = some (.long (qL (if k = 0 then mL M h 0 else if k = 1 then mL M h 1 else mL M h 2))) ∧ M' = M) := by
  refine qCt_of (lv0 := [(0, .ref h), (1, .int (qI (k)))]) (by decide) rfl (Nat.le_of_ble_eq_true rfl) ?_
  intro p e s m args below meth c G hname hret
  refine q_iload_n G 1 1 dX1_part_0 rfl rfl ?_
  refine q_if_ne (tgt := 9) G dX1_part_1 (by decide) (by first | assumption | omega) (fun c1 => ?_) (fun c1 => ?_)
  · refine q_iload_n G 1 1 dX1_part_9 rfl rfl ?_
    refine q_iconst G dX1_part_10 ?_
    refine q_icmp_ne (tgt := 21) G dX1_part_11 (by decide) (by first | assumption | omega) (by first | assumption | omega) (fun c2 => ?_) (fun c2 => ?_)
    · refine q_aload_n G 0 0 dX1_part_21 rfl rfl ?_
      refine q_gt (v := .long (qL (mL M h 2))) G dX1_part_22 fl_X1_16 hO (by decide) rfl rfl ?_
      exact q_lret G dX1_part_25 hret (by omega) (by omega) (⟨by first | (rw [if_pos]; omega) | (rw [if_neg, if_pos] <;> omega) | (rw [if_neg, if_neg] <;> omega), rfl⟩)
    · refine q_aload_n G 0 0 dX1_part_14 rfl rfl ?_
      refine q_gt (v := .long (qL (mL M h 1))) G dX1_part_15 fl_X1_13 hO (by decide) rfl rfl ?_
      refine q_goto (tgt := 25) G dX1_part_18 (by decide) ?_
      exact q_lret G dX1_part_25 hret (by omega) (by omega) (⟨by first | (rw [if_pos]; omega) | (rw [if_neg, if_pos] <;> omega) | (rw [if_neg, if_neg] <;> omega), rfl⟩)
  · refine q_aload_n G 0 0 dX1_part_4 rfl rfl ?_
    refine q_gt (v := .long (qL (mL M h 0))) G dX1_part_5 fl_X1_7 hO (by decide) rfl rfl ?_
    exact q_lret G dX1_part_8 hret (by omega) (by omega) (⟨by first | (rw [if_pos]; omega) | (rw [if_neg, if_pos] <;> omega) | (rw [if_neg, if_neg] <;> omega), rfl⟩)
/-- a form's three numbers put -/
def stF (L : Nat → Nat → Int) (a : Nat) (x y z : Int) : Nat → Nat → Int := up2 (up2 (up2 L a 0 x) a 1 y) a 2 z
theorem stF_0 (L : Nat → Nat → Int) (a : Nat) (x y z : Int) : stF L a x y z a 0 = x := by simp [stF, up2]
theorem stF_1 (L : Nat → Nat → Int) (a : Nat) (x y z : Int) : stF L a x y z a 1 = y := by simp [stF, up2]
theorem stF_2 (L : Nat → Nat → Int) (a : Nat) (x y z : Int) : stF L a x y z a 2 = z := by simp [stF, up2]
theorem stF_n (L : Nat → Nat → Int) {a b : Nat} (x y z : Int) (h : b ≠ a) (k : Nat) : stF L a x y z b k = L b k := by simp [stF, up2, h]
theorem stF_k (L : Nat → Nat → Int) {a : Nat} (x y z : Int) (b : Nat) {k : Nat} (h : 3 ≤ k) : stF L a x y z b k = L b k := by
  have h0 : k ≠ 0 := by omega
  have h1 : k ≠ 1 := by omega
  have h2 : k ≠ 2 := by omega
  simp [stF, up2, h0, h1, h2]
theorem stF_stF (L : Nat → Nat → Int) (a : Nat) (x y z x' y' z' : Int) : stF (stF L a x y z) a x' y' z' = stF L a x' y' z' := by
  funext b k
  simp only [stF, up2]
  repeat' split
  all_goals first | rfl | omega
theorem stF_self (L : Nat → Nat → Int) (a : Nat) : stF L a (L a 0) (L a 1) (L a 2) = L := by
  funext b k
  simp only [stF, up2]
  split
  · next h => rw [h.1, h.2]
  · split
    · next h => rw [h.1, h.2]
    · split
      · next h => rw [h.1, h.2]
      · rfl
theorem up2_up2 {α : Type} (f : Nat → Nat → α) (a k : Nat) (v w : α) : up2 (up2 f a k v) a k w = up2 f a k w := by
  funext b j
  simp only [up2]
  split <;> rfl
set_option maxRecDepth 100000 in
set_option maxHeartbeats 4000000 in
theorem c_X1_become (l : Launch) (D : va_G) (cy : Nat → ClassId) (M : qM) (h g : Nat) (hO : qO M h 1) (hG : qO M g 1) : qCt l D cy yX1_become cX1_become 2 none { frames := 0, cells := 0, slots := 0, locals := 0 } 0 0 [.ref h, .ref g] M (fun v M' => v = none ∧ M' = wL M (stF (mL M) h (mL M g 0) (mL M g 1) (mL M g 2))) := by
  refine qCt_of (lv0 := [(0, .ref h), (1, .ref g)]) (by decide) rfl (Nat.le_of_ble_eq_true rfl) ?_
  intro p e s m args below meth c G hname hret
  refine q_aload_n G 0 0 dX1_become_0 rfl rfl ?_
  refine q_aload_n G 1 1 dX1_become_1 rfl rfl ?_
  refine q_gt (v := .long (qL (mL M g 0))) G dX1_become_2 fl_X1_7 hG (by decide) rfl rfl ?_
  refine q_pL (z := mL M g 0) G dX1_become_5 (pl_X1_7 _) nf_1_0 hO (by decide) (Nat.le_of_ble_eq_true rfl) (fs_1_0 _ _ _) ?_
  refine q_aload_n G 0 0 dX1_become_8 rfl rfl ?_
  refine q_aload_n G 1 1 dX1_become_9 rfl rfl ?_
  refine q_gt (v := .long (qL (mL M g 1))) G dX1_become_10 fl_X1_13 hG (by decide) rfl (by simp [mI, mL, mR, sL, sI, sR, up2]) ?_
  refine q_pL (z := mL M g 1) G dX1_become_13 (pl_X1_13 _) nf_1_1 hO (by decide) (Nat.le_of_ble_eq_true rfl) (fs_1_1 _ _ _) ?_
  refine q_aload_n G 0 0 dX1_become_16 rfl rfl ?_
  refine q_aload_n G 1 1 dX1_become_17 rfl rfl ?_
  refine q_gt (v := .long (qL (mL M g 2))) G dX1_become_18 fl_X1_16 hG (by decide) rfl (by simp [mI, mL, mR, sL, sI, sR, up2]) ?_
  refine q_pL (z := mL M g 2) G dX1_become_21 (pl_X1_16 _) nf_1_2 hO (by decide) (Nat.le_of_ble_eq_true rfl) (fs_1_2 _ _ _) ?_
  exact q_vret G dX1_become_24 hret (by omega) (by omega) (⟨rfl, rfl⟩)
set_option maxRecDepth 100000 in
set_option maxHeartbeats 4000000 in
theorem c_X1_swapEnds (l : Launch) (D : va_G) (cy : Nat → ClassId) (M : qM) (h : Nat) (hO : qO M h 1) : qCt l D cy yX1_swapEnds cX1_swapEnds 3 none { frames := 0, cells := 0, slots := 0, locals := 0 } 0 0 [.ref h] M (fun v M' => v = none ∧ M' = wL M (stF (mL M) h (mL M h 2) (-mL M h 1) (mL M h 0))) := by
  refine qCt_of (lv0 := [(0, .ref h)]) (by decide) rfl (Nat.le_of_ble_eq_true rfl) ?_
  intro p e s m args below meth c G hname hret
  refine q_aload_n G 0 0 dX1_swapEnds_0 rfl rfl ?_
  refine q_gt (v := .long (qL (mL M h 0))) G dX1_swapEnds_1 fl_X1_7 hO (by decide) rfl rfl ?_
  refine q_lstore_n (lv' := [(1, .long (qL (mL M h 0))), (0, .ref h)]) G 1 dX1_swapEnds_4 rfl (by decide) rfl ?_
  refine q_aload_n G 1 0 dX1_swapEnds_5 rfl rfl ?_
  refine q_aload_n G 1 0 dX1_swapEnds_6 rfl rfl ?_
  refine q_gt (v := .long (qL (mL M h 2))) G dX1_swapEnds_7 fl_X1_16 hO (by decide) rfl rfl ?_
  refine q_pL (z := mL M h 2) G dX1_swapEnds_10 (pl_X1_7 _) nf_1_0 hO (by decide) (Nat.le_of_ble_eq_true rfl) (fs_1_0 _ _ _) ?_
  refine q_aload_n G 1 0 dX1_swapEnds_13 rfl rfl ?_
  refine q_aload_n G 1 0 dX1_swapEnds_14 rfl rfl ?_
  refine q_gt (v := .long (qL (mL M h 1))) G dX1_swapEnds_15 fl_X1_13 hO (by decide) rfl (by simp [mI, mL, mR, sL, sI, sR, up2]) ?_
  refine q_lneg G dX1_swapEnds_18 ?_
  refine q_pL (z := -(mL M h 1)) G dX1_swapEnds_19 (pl_X1_13 _) nf_1_1 hO (by decide) (Nat.le_of_ble_eq_true rfl) (fs_1_1 _ _ _) ?_
  refine q_aload_n G 1 0 dX1_swapEnds_22 rfl rfl ?_
  refine q_lload_n G 0 1 dX1_swapEnds_23 rfl rfl ?_
  refine q_pL (z := mL M h 0) G dX1_swapEnds_24 (pl_X1_16 _) nf_1_2 hO (by decide) (Nat.le_of_ble_eq_true rfl) (fs_1_2 _ _ _) ?_
  exact q_vret G dX1_swapEnds_27 hret (by omega) (by omega) (⟨rfl, rfl⟩)
set_option maxRecDepth 100000 in
set_option maxHeartbeats 4000000 in
theorem c_X5_down (l : Launch) (D : va_G) (cy : Nat → ClassId) (M : qM) (x y : Int) (hx : r64 x) (hy : r64 y) (hne : y ≠ 0) : qCt l D cy yX5_down cX5_down 6 (some .long) { frames := 0, cells := 0, slots := 0, locals := 0 } 0 0 [.long (qL (x)), .long (qL (y))] M (fun v M' => v = some (.long (qL (if x.tmod y < 0 then x.tdiv y - 1 else x.tdiv y))) ∧ M' = M) := by
  refine qCt_of (lv0 := [(0, .long (qL (x))), (2, .long (qL (y)))]) (by decide) rfl (Nat.le_of_ble_eq_true rfl) ?_
  intro p e s m args below meth c G hname hret
  refine q_lload_n G 0 0 dX5_down_0 rfl rfl ?_
  refine q_lload_n G 1 2 dX5_down_1 rfl rfl ?_
  refine q_ldiv G dX5_down_2 (by first | assumption | omega | exact r64_tmod (by assumption)) (by first | assumption | omega | exact r64_tmod (by assumption)) (by first | assumption | omega | exact r64_tmod (by assumption)) ?_
  refine q_lstore (lv' := [(4, .long (qL ((x).tdiv y))), (0, .long (qL (x))), (2, .long (qL (y)))]) G dX5_down_3 (by decide) rfl ?_
  refine q_lload_n G 1 0 dX5_down_5 rfl rfl ?_
  refine q_lload_n G 2 2 dX5_down_6 rfl rfl ?_
  refine q_lrem G dX5_down_7 (by first | assumption | omega | exact r64_tmod (by assumption)) (by first | assumption | omega | exact r64_tmod (by assumption)) (by first | assumption | omega | exact r64_tmod (by assumption)) ?_
  refine q_lconst (z := 0) G dX5_down_8 (by decide +kernel) ?_
  refine q_lcmp_ge (tgt := 20) G dX5_down_9 dX5_down_10 (by decide) (by first | assumption | omega | exact r64_tmod (by assumption)) (by first | assumption | omega | exact r64_tmod (by assumption)) (fun c1 => ?_) (fun c1 => ?_)
  · refine q_lload G 0 dX5_down_20 rfl ?_
    exact q_lret G dX5_down_22 hret (by omega) (by omega) (⟨by first | (rw [if_pos]; omega) | (rw [if_neg]; omega), rfl⟩)
  · refine q_lload G 0 dX5_down_13 rfl ?_
    refine q_lconst (z := 1) G dX5_down_15 (by decide +kernel) ?_
    refine q_lsub G dX5_down_16 ?_
    refine q_goto (tgt := 22) G dX5_down_17 (by decide) ?_
    exact q_lret G dX5_down_22 hret (by omega) (by omega) (⟨by first | (rw [if_pos]; omega) | (rw [if_neg]; omega), rfl⟩)
set_option maxRecDepth 100000 in
set_option maxHeartbeats 4000000 in
theorem c_X5_modulo (l : Launch) (D : va_G) (cy : Nat → ClassId) (M : qM) (x y : Int) (hx : r64 x) (hy : r64 y) (hne : y ≠ 0) : qCt l D cy yX5_modulo cX5_modulo 6 (some .long) { frames := 0, cells := 0, slots := 0, locals := 0 } 0 0 [.long (qL (x)), .long (qL (y))] M (fun v M' => v = some (.long (qL (if x.tmod y < 0 then x.tmod y + y else x.tmod y))) ∧ M' = M) := by
  refine qCt_of (lv0 := [(0, .long (qL (x))), (2, .long (qL (y)))]) (by decide) rfl (Nat.le_of_ble_eq_true rfl) ?_
  intro p e s m args below meth c G hname hret
  refine q_lload_n G 0 0 dX5_modulo_0 rfl rfl ?_
  refine q_lload_n G 1 2 dX5_modulo_1 rfl rfl ?_
  refine q_lrem G dX5_modulo_2 (by first | assumption | omega | exact r64_tmod (by assumption)) (by first | assumption | omega | exact r64_tmod (by assumption)) (by first | assumption | omega | exact r64_tmod (by assumption)) ?_
  refine q_lstore (lv' := [(4, .long (qL ((x).tmod y))), (0, .long (qL (x))), (2, .long (qL (y)))]) G dX5_modulo_3 (by decide) rfl ?_
  refine q_lload G 0 dX5_modulo_5 rfl ?_
  refine q_lconst (z := 0) G dX5_modulo_7 (by decide +kernel) ?_
  refine q_lcmp_ge (tgt := 19) G dX5_modulo_8 dX5_modulo_9 (by decide) (by first | assumption | omega | exact r64_tmod (by assumption)) (by first | assumption | omega | exact r64_tmod (by assumption)) (fun c1 => ?_) (fun c1 => ?_)
  · refine q_lload G 0 dX5_modulo_19 rfl ?_
    exact q_lret G dX5_modulo_21 hret (by omega) (by omega) (⟨by first | (rw [if_pos]; omega) | (rw [if_neg]; omega), rfl⟩)
  · refine q_lload G 0 dX5_modulo_12 rfl ?_
    refine q_lload_n G 2 2 dX5_modulo_14 rfl rfl ?_
    refine q_ladd G dX5_modulo_15 ?_
    refine q_goto (tgt := 21) G dX5_modulo_16 (by decide) ?_
    exact q_lret G dX5_modulo_21 hret (by omega) (by omega) (⟨by first | (rw [if_pos]; omega) | (rw [if_neg]; omega), rfl⟩)
set_option maxRecDepth 100000 in
set_option maxHeartbeats 4000000 in
theorem c_X5_valueOf (l : Launch) (D : va_G) (cy : Nat → ClassId) (M : qM) (a b c x y : Int) : qCt l D cy yX5_valueOf cX5_valueOf 10 (some .long) { frames := 0, cells := 0, slots := 0, locals := 0 } 0 0 [.long (qL (a)), .long (qL (b)), .long (qL (c)), .long (qL (x)), .long (qL (y))] M (fun v M' => v = some (.long (qL (a * x * x + b * x * y + c * y * y))) ∧ M' = M) := by
  refine qCt_of (lv0 := [(0, .long (qL (a))), (2, .long (qL (b))), (4, .long (qL (c))), (6, .long (qL (x))), (8, .long (qL (y)))]) (by decide) rfl (Nat.le_of_ble_eq_true rfl) ?_
  intro p e s m args below meth c G hname hret
  refine q_lload_n G 0 0 dX5_valueOf_0 rfl rfl ?_
  refine q_lload G 3 dX5_valueOf_1 rfl ?_
  refine q_lmul G dX5_valueOf_3 ?_
  refine q_lload G 3 dX5_valueOf_4 rfl ?_
  refine q_lmul G dX5_valueOf_6 ?_
  refine q_lload_n G 1 2 dX5_valueOf_7 rfl rfl ?_
  refine q_lload G 3 dX5_valueOf_8 rfl ?_
  refine q_lmul G dX5_valueOf_10 ?_
  refine q_lload G 4 dX5_valueOf_11 rfl ?_
  refine q_lmul G dX5_valueOf_13 ?_
  refine q_ladd G dX5_valueOf_14 ?_
  refine q_lload G 2 dX5_valueOf_15 rfl ?_
  refine q_lload G 4 dX5_valueOf_17 rfl ?_
  refine q_lmul G dX5_valueOf_19 ?_
  refine q_lload G 4 dX5_valueOf_20 rfl ?_
  refine q_lmul G dX5_valueOf_22 ?_
  refine q_ladd G dX5_valueOf_23 ?_
  exact q_lret G dX5_valueOf_24 hret (by omega) (by omega) (⟨rfl, rfl⟩)
set_option maxRecDepth 100000 in
set_option maxHeartbeats 4000000 in
theorem c_X5_mix (l : Launch) (D : va_G) (cy : Nat → ClassId) (M : qM) (x y : Int) : qCt l D cy yX5_mix cX5_mix 3 (some .int) { frames := 0, cells := 0, slots := 0, locals := 0 } 0 0 [.int (qI (x)), .int (qI (y))] M (fun v M' => v = some (.int (qI (mixN x y))) ∧ M' = M) := by
  refine qCt_of (lv0 := [(0, .int (qI (x))), (1, .int (qI (y)))]) (by decide) rfl (Nat.le_of_ble_eq_true rfl) ?_
  intro p e s m args below meth c G hname hret
  refine q_iload_n G 0 0 dX5_mix_0 rfl rfl ?_
  refine q_iload_n G 1 1 dX5_mix_1 rfl rfl ?_
  refine q_ixor G dX5_mix_2 ?_
  refine q_ldc (z := 1540483477) G dX5_mix_3 tw_660 (by decide +kernel) ?_
  refine q_imul G dX5_mix_5 ?_
  refine q_istore_n (lv' := [(2, .int (qI ((qxor x y) * 1540483477))), (0, .int (qI (x))), (1, .int (qI (y)))]) G 2 dX5_mix_6 rfl (by decide) rfl ?_
  refine q_iload_n G 0 2 dX5_mix_7 rfl rfl ?_
  refine q_iload_n G 0 2 dX5_mix_8 rfl rfl ?_
  refine q_bipush G dX5_mix_9 (by decide +kernel) ?_
  refine q_iushr G dX5_mix_11 ?_
  refine q_ixor G dX5_mix_12 ?_
  exact q_iret G dX5_mix_13 hret (by omega) (by omega) (⟨rfl, rfl⟩)
set_option maxRecDepth 100000 in
set_option maxHeartbeats 4000000 in
theorem c_X5_isMany (l : Launch) (D : va_G) (cy : Nat → ClassId) (M : qM) (n : Int) (hn : r32 n) : qCt l D cy yX5_isMany cX5_isMany 1 (some .boolean) { frames := 0, cells := 0, slots := 0, locals := 0 } 0 0 [.int (qI (n))] M (fun v M' => v = some (.int (qI (if 0 < n ∧ n < 501 then 1 else 0))) ∧ M' = M) := by
  refine qCt_of (lv0 := [(0, .int (qI (n)))]) (by decide) rfl (Nat.le_of_ble_eq_true rfl) ?_
  intro p e s m args below meth c G hname hret
  refine q_iload_n G 0 0 dX5_isMany_0 rfl rfl ?_
  refine q_if_le (tgt := 15) G dX5_isMany_1 (by decide) (by first | assumption | omega) (fun c1 => ?_) (fun c1 => ?_)
  · refine q_iconst G dX5_isMany_15 ?_
    exact q_zret G dX5_isMany_16 hret (by decide +kernel) (by omega) (by omega) (⟨by first | (rw [if_pos]; omega) | (rw [if_neg]; omega), rfl⟩)
  · refine q_iload_n G 0 0 dX5_isMany_4 rfl rfl ?_
    refine q_sipush G dX5_isMany_5 (by decide +kernel) ?_
    refine q_icmp_ge (tgt := 15) G dX5_isMany_8 (by decide) (by first | assumption | omega) (by first | assumption | omega) (fun c2 => ?_) (fun c2 => ?_)
    · refine q_iconst G dX5_isMany_15 ?_
      exact q_zret G dX5_isMany_16 hret (by decide +kernel) (by omega) (by omega) (⟨by first | (rw [if_pos]; omega) | (rw [if_neg]; omega), rfl⟩)
    · refine q_iconst G dX5_isMany_11 ?_
      refine q_goto (tgt := 16) G dX5_isMany_12 (by decide) ?_
      exact q_zret G dX5_isMany_16 hret (by decide +kernel) (by omega) (by omega) (⟨by first | (rw [if_pos]; omega) | (rw [if_neg]; omega), rfl⟩)
set_option maxRecDepth 100000 in
set_option maxHeartbeats 4000000 in
theorem c_X5_isPlace (l : Launch) (D : va_G) (cy : Nat → ClassId) (M : qM) (n : Int) (hn : r32 n) : qCt l D cy yX5_isPlace cX5_isPlace 1 (some .boolean) { frames := 0, cells := 0, slots := 0, locals := 0 } 0 0 [.int (qI (n))] M (fun v M' => v = some (.int (qI (if 0 ≤ n ∧ n < 3 then 1 else 0))) ∧ M' = M) := by
  refine qCt_of (lv0 := [(0, .int (qI (n)))]) (by decide) rfl (Nat.le_of_ble_eq_true rfl) ?_
  intro p e s m args below meth c G hname hret
  refine q_iload_n G 0 0 dX5_isPlace_0 rfl rfl ?_
  refine q_if_lt (tgt := 13) G dX5_isPlace_1 (by decide) (by first | assumption | omega) (fun c1 => ?_) (fun c1 => ?_)
  · refine q_iconst G dX5_isPlace_13 ?_
    exact q_zret G dX5_isPlace_14 hret (by decide +kernel) (by omega) (by omega) (⟨by first | (rw [if_pos]; omega) | (rw [if_neg]; omega), rfl⟩)
  · refine q_iload_n G 0 0 dX5_isPlace_4 rfl rfl ?_
    refine q_iconst G dX5_isPlace_5 ?_
    refine q_icmp_ge (tgt := 13) G dX5_isPlace_6 (by decide) (by first | assumption | omega) (by first | assumption | omega) (fun c2 => ?_) (fun c2 => ?_)
    · refine q_iconst G dX5_isPlace_13 ?_
      exact q_zret G dX5_isPlace_14 hret (by decide +kernel) (by omega) (by omega) (⟨by first | (rw [if_pos]; omega) | (rw [if_neg]; omega), rfl⟩)
    · refine q_iconst G dX5_isPlace_9 ?_
      refine q_goto (tgt := 14) G dX5_isPlace_10 (by decide) ?_
      exact q_zret G dX5_isPlace_14 hret (by decide +kernel) (by omega) (by omega) (⟨by first | (rw [if_pos]; omega) | (rw [if_neg]; omega), rfl⟩)
end
section
/-! binary quadratic forms: alike forms, reduced ones, products by cubes -/
/-- (a', b', c') comes of (a, b, c) by a change of determinant 1 -/
def fEq (a b c a' b' c' : Int) : Prop := ∃ p q r s : Int, p * s - q * r = 1 ∧ a' = a * p * p + b * p * r + c * r * r ∧ b' = 2 * a * p * q + b * (p * s + q * r) + 2 * c * r * s ∧ c' = a * q * q + b * q * s + c * s * s
theorem fEq_rfl (a b c : Int) : fEq a b c a b c := ⟨1, 0, 0, 1, by grind, by grind, by grind, by grind⟩
theorem fEq_trans {a b c a' b' c' a'' b'' c'' : Int} (h : fEq a b c a' b' c') (h' : fEq a' b' c' a'' b'' c'') : fEq a b c a'' b'' c'' := by
  obtain ⟨p, q, r, s, h1, h2, h3, h4⟩ := h
  obtain ⟨p', q', r', s', h1', h2', h3', h4'⟩ := h'
  refine ⟨p * p' + q * r', p * q' + q * s', r * p' + s * r', r * q' + s * s', ?_, ?_, ?_, ?_⟩
  · have e : (p * p' + q * r') * (r * q' + s * s') - (p * q' + q * s') * (r * p' + s * r') = (p * s - q * r) * (p' * s' - q' * r') := by grind
    rw [e, h1, h1']; rfl
  · rw [h2', h2, h3, h4]; grind
  · rw [h3', h2, h3, h4]; grind
  · rw [h4', h2, h3, h4]; grind
theorem fEq_symm {a b c a' b' c' : Int} (h : fEq a b c a' b' c') : fEq a' b' c' a b c := by
  obtain ⟨p, q, r, s, h1, h2, h3, h4⟩ := h
  refine ⟨s, -q, -r, p, by grind, ?_, ?_, ?_⟩
  · have e : a' * s * s + b' * s * (-r) + c' * (-r) * (-r) = a * ((p * s - q * r) * (p * s - q * r)) := by rw [h2, h3, h4]; grind
    rw [e, h1]; grind
  · have e : 2 * a' * s * (-q) + b' * (s * p + (-q) * (-r)) + 2 * c' * (-r) * p = b * ((p * s - q * r) * (p * s - q * r)) := by rw [h2, h3, h4]; grind
    rw [e, h1]; grind
  · have e : a' * (-q) * (-q) + b' * (-q) * p + c' * p * p = c * ((p * s - q * r) * (p * s - q * r)) := by rw [h2, h3, h4]; grind
    rw [e, h1]; grind
theorem fEq_disc {a b c a' b' c' : Int} (h : fEq a b c a' b' c') : b' * b' - 4 * a' * c' = b * b - 4 * a * c := by
  obtain ⟨p, q, r, s, h1, h2, h3, h4⟩ := h
  have e : b' * b' - 4 * a' * c' = (b * b - 4 * a * c) * ((p * s - q * r) * (p * s - q * r)) := by rw [h2, h3, h4]; grind
  rw [e, h1]; grind
/-- b by 2 n a -/
theorem fEq_move (a b c n : Int) : fEq a b c a (b + 2 * a * n) (c + n * b + a * n * n) := ⟨1, n, 0, 1, by grind, by grind, by grind, by grind⟩
theorem fEq_swap (a b c : Int) : fEq a b c c (-b) a := ⟨0, -1, 1, 0, by grind, by grind, by grind, by grind⟩
/-- no common divisor above 1 -/
def fPr (a b c : Int) : Prop := ∃ x y z : Int, x * a + y * b + z * c = 1
theorem fEq_pr {a b c a' b' c' : Int} (h : fEq a b c a' b' c') (hp : fPr a b c) : fPr a' b' c' := by
  obtain ⟨p, q, r, s, h1, h2, h3, h4⟩ := fEq_symm h
  obtain ⟨x, y, z, e⟩ := hp
  refine ⟨x * p * p + 2 * y * p * q + z * q * q, x * p * r + y * (p * s + q * r) + z * q * s, x * r * r + 2 * y * r * s + z * s * s, ?_⟩
  rw [← e, h2, h3, h4]; grind
/-- three forms out of a cube -/
def fCu (a b c a' b' c' A B C : Int) : Prop := ∃ p0 p1 p2 p3 q0 q1 q2 q3 : Int,
  p0 * q1 - p1 * q0 = a ∧ p2 * q3 - p3 * q2 = c ∧ p0 * q2 - p2 * q0 = a' ∧ p1 * q3 - p3 * q1 = c' ∧ (p0 * q3 - p3 * q0) - (p1 * q2 - p2 * q1) = b ∧ (p0 * q3 - p3 * q0) + (p1 * q2 - p2 * q1) = b' ∧
  A = q1 * q2 - q0 * q3 ∧ B = p0 * q3 + p3 * q0 - p1 * q2 - p2 * q1 ∧ C = p1 * p2 - p0 * p3
theorem fCu_comm {a b c a' b' c' A B C : Int} (h : fCu a b c a' b' c' A B C) : fCu a' b' c' a b c A B C := by
  obtain ⟨p0, p1, p2, p3, q0, q1, q2, q3, h1, h2, h3, h4, h5, h6, h7, h8, h9⟩ := h
  exact ⟨p0, p2, p1, p3, q0, q2, q1, q3, h3, h4, h1, h2, by grind, by grind, by grind, by grind, by grind⟩
theorem fCu_disc {a b c a' b' c' A B C : Int} (h : fCu a b c a' b' c' A B C) : B * B - 4 * A * C = b * b - 4 * a * c := by
  obtain ⟨p0, p1, p2, p3, q0, q1, q2, q3, h1, h2, h3, h4, h5, h6, h7, h8, h9⟩ := h
  rw [h7, h8, h9, ← h1, ← h2, ← h5]; grind
end
section
theorem cb_par {d01 d02 d03 d12 d13 d23 p0 p1 p2 p3 q0 q1 q2 q3 x0 x1 x2 x3 y0 y1 y2 y3 : Int}
    (a1 : p0 * q1 - p1 * q0 = d01) (a2 : p0 * q2 - p2 * q0 = d02) (a3 : p0 * q3 - p3 * q0 = d03) (a4 : p1 * q2 - p2 * q1 = d12) (a5 : p1 * q3 - p3 * q1 = d13) (a6 : p2 * q3 - p3 * q2 = d23)
    (b1 : x0 * y1 - x1 * y0 = d01) (b2 : x0 * y2 - x2 * y0 = d02) (b3 : x0 * y3 - x3 * y0 = d03) (b4 : x1 * y2 - x2 * y1 = d12) (b5 : x1 * y3 - x3 * y1 = d13) (b6 : x2 * y3 - x3 * y2 = d23)
    {u v w : Int} (e : u * d01 + v * (d03 - d12) + w * d23 = 1) :
    ∃ α β : Int, x0 = α * p0 + β * q0 ∧ x1 = α * p1 + β * q1 ∧ x2 = α * p2 + β * q2 ∧ x3 = α * p3 + β * q3 := by
  -- the three by three minors of (p, q, x) are 0
  have t012 : x0 * d12 - x1 * d02 + x2 * d01 = 0 := by rw [← b4, ← b2, ← b1]; grind
  have t013 : x0 * d13 - x1 * d03 + x3 * d01 = 0 := by rw [← b5, ← b3, ← b1]; grind
  have t023 : x0 * d23 - x2 * d03 + x3 * d02 = 0 := by rw [← b6, ← b3, ← b2]; grind
  have t123 : x1 * d23 - x2 * d13 + x3 * d12 = 0 := by rw [← b6, ← b5, ← b4]; grind
  refine ⟨u * (x0 * q1 - x1 * q0) + v * ((x0 * q3 - x3 * q0) - (x1 * q2 - x2 * q1)) + w * (x2 * q3 - x3 * q2), u * (p0 * x1 - p1 * x0) + v * ((p0 * x3 - p3 * x0) - (p1 * x2 - p2 * x1)) + w * (p2 * x3 - p3 * x2), ?_, ?_, ?_, ?_⟩
  · have k : x0 = x0 * (u * d01 + v * (d03 - d12) + w * d23) := by rw [e]; grind
    rw [k]
    subst a1 a2 a3 a4 a5 a6
    grind
  · have k : x1 = x1 * (u * d01 + v * (d03 - d12) + w * d23) := by rw [e]; grind
    rw [k]
    subst a1 a2 a3 a4 a5 a6
    grind
  · have k : x2 = x2 * (u * d01 + v * (d03 - d12) + w * d23) := by rw [e]; grind
    rw [k]
    subst a1 a2 a3 a4 a5 a6
    grind
  · have k : x3 = x3 * (u * d01 + v * (d03 - d12) + w * d23) := by rw [e]; grind
    rw [k]
    subst a1 a2 a3 a4 a5 a6
    grind
/-- two forms out of cubes with the same two are alike -/
theorem fCu_unique {a b c a' b' c' A B C A' B' C' : Int} (hp : fPr a b c) (h : fCu a b c a' b' c' A B C) (h' : fCu a b c a' b' c' A' B' C') : fEq A B C A' B' C' := by
  obtain ⟨u, v, w, e⟩ := hp
  obtain ⟨p0, p1, p2, p3, q0, q1, q2, q3, h1, h2, h3, h4, h5, h6, h7, h8, h9⟩ := h
  obtain ⟨x0, x1, x2, x3, y0, y1, y2, y3, g1, g2, g3, g4, g5, g6, g7, g8, g9⟩ := h'
  obtain ⟨s, hs⟩ : ∃ s, p0 * q3 - p3 * q0 = s := ⟨_, rfl⟩
  obtain ⟨t, ht⟩ : ∃ t, p1 * q2 - p2 * q1 = t := ⟨_, rfl⟩
  have gs : x0 * y3 - x3 * y0 = s := by omega
  have gt : x1 * y2 - x2 * y1 = t := by omega
  have e2 : u * a + v * (s - t) + w * c = 1 := by rw [← e]; have : s - t = b := by omega
                                                  rw [this]
  obtain ⟨α, β, k0, k1, k2, k3⟩ := cb_par h1 h3 hs ht h4 h2 g1 g3 gs gt g4 g2 e2
  have n1 : (-y0) * x1 - (-y1) * x0 = a := by rw [← g1]; grind
  have n2 : (-y0) * x2 - (-y2) * x0 = a' := by rw [← g3]; grind
  have n3 : (-y0) * x3 - (-y3) * x0 = s := by rw [← gs]; grind
  have n4 : (-y1) * x2 - (-y2) * x1 = t := by rw [← gt]; grind
  have n5 : (-y1) * x3 - (-y3) * x1 = c' := by rw [← g4]; grind
  have n6 : (-y2) * x3 - (-y3) * x2 = c := by rw [← g2]; grind
  obtain ⟨γ, δ, l0, l1, l2, l3⟩ := cb_par h1 h3 hs ht h4 h2 n1 n2 n3 n4 n5 n6 e2
  have m0 : y0 = -γ * p0 + -δ * q0 := by grind
  have m1 : y1 = -γ * p1 + -δ * q1 := by grind
  have m2 : y2 = -γ * p2 + -δ * q2 := by grind
  have m3 : y3 = -γ * p3 + -δ * q3 := by grind
  have det : α * -δ - β * -γ = 1 := by
    have d1 : a = (α * -δ - β * -γ) * a := by
      have : x0 * y1 - x1 * y0 = (α * -δ - β * -γ) * (p0 * q1 - p1 * q0) := by rw [k0, k1, m0, m1]; grind
      rw [g1, h1] at this; exact this
    have d2 : s = (α * -δ - β * -γ) * s := by
      have : x0 * y3 - x3 * y0 = (α * -δ - β * -γ) * (p0 * q3 - p3 * q0) := by rw [k0, k3, m0, m3]; grind
      rw [gs, hs] at this; exact this
    have d3 : t = (α * -δ - β * -γ) * t := by
      have : x1 * y2 - x2 * y1 = (α * -δ - β * -γ) * (p1 * q2 - p2 * q1) := by rw [k1, k2, m1, m2]; grind
      rw [gt, ht] at this; exact this
    have d4 : c = (α * -δ - β * -γ) * c := by
      have : x2 * y3 - x3 * y2 = (α * -δ - β * -γ) * (p2 * q3 - p3 * q2) := by rw [k2, k3, m2, m3]; grind
      rw [g2, h2] at this; exact this
    generalize α * -δ - β * -γ = z at d1 d2 d3 d4
    have : z * (u * a + v * (s - t) + w * c) = u * a + v * (s - t) + w * c := by
      have q : z * (u * a + v * (s - t) + w * c) = u * (z * a) + v * (z * s - z * t) + w * (z * c) := by grind
      rw [q, ← d1, ← d2, ← d3, ← d4]
    rw [e2] at this; omega
  refine ⟨-δ, -β, γ, α, by grind, ?_, ?_, ?_⟩
  · rw [g7, h7, h8, h9, m0, m1, m2, m3]; grind
  · rw [g8, h7, h8, h9, m0, m1, m2, m3, k0, k1, k2, k3]; grind
  · rw [g9, h7, h8, h9, k0, k1, k2, k3]; grind
/-- another first form that is alike -/
theorem fCu_left {a b c x y z a' b' c' A B C : Int} (h : fCu a b c a' b' c' A B C) (e : fEq a b c x y z) : fCu x y z a' b' c' A B C := by
  obtain ⟨p0, p1, p2, p3, q0, q1, q2, q3, h1, h2, h3, h4, h5, h6, h7, h8, h9⟩ := h
  obtain ⟨p, q, r, s, e1, e2, e3, e4⟩ := e
  have e5 : ∀ k : Int, k = (p * s - q * r) * k := by intro k; rw [e1]; omega
  refine ⟨p * p0 + r * p2, p * p1 + r * p3, q * p0 + s * p2, q * p1 + s * p3, p * q0 + r * q2, p * q1 + r * q3, q * q0 + s * q2, q * q1 + s * q3, ?_, ?_, ?_, ?_, ?_, ?_, ?_, ?_, ?_⟩
  · rw [e2, ← h1, ← h2, ← h5]; grind
  · rw [e4, ← h1, ← h2, ← h5]; grind
  · rw [e5 a', ← h3]; grind
  · rw [e5 c', ← h4]; grind
  · rw [e3, ← h1, ← h2, ← h5]; grind
  · rw [e5 b', ← h6]; grind
  · rw [e5 A, h7]; grind
  · rw [e5 B, h8]; grind
  · rw [e5 C, h9]; grind
theorem fCu_right {a b c x y z a' b' c' A B C : Int} (h : fCu a b c a' b' c' A B C) (e : fEq a' b' c' x y z) : fCu a b c x y z A B C := fCu_comm (fCu_left (fCu_comm h) e)
/-- two that suit: (a, B, f C) and (f, B, a C) -/
theorem fCu_suit (a f B C : Int) : fCu a B (f * C) f B (a * C) (a * f) B C :=
  ⟨1, 0, 0, -C, 0, a, f, B, by grind, by grind, by grind, by grind, by grind, by grind, by grind, by grind, by grind⟩
theorem fCu_pr {a b c a' b' c' A B C : Int} (h : fCu a b c a' b' c' A B C) (hf : fPr a b c) (hg : fPr a' b' c') : fPr A B C := by
  obtain ⟨p0, p1, p2, p3, q0, q1, q2, q3, h1, h2, h3, h4, h5, h6, h7, h8, h9⟩ := h
  obtain ⟨u, v, w, e⟩ := hf
  obtain ⟨x, y, z, e'⟩ := hg
  have c1 : a * a' = A * p0 * p0 + B * p0 * q0 + C * q0 * q0 := by rw [← h1, ← h3, h7, h8, h9]; grind
  have c2 : a * b' = 2 * A * p0 * p1 + B * (p0 * q1 + p1 * q0) + 2 * C * q0 * q1 := by rw [← h1, ← h6, h7, h8, h9]; grind
  have c3 : a * c' = A * p1 * p1 + B * p1 * q1 + C * q1 * q1 := by rw [← h1, ← h4, h7, h8, h9]; grind
  have c4 : b * a' = 2 * A * p0 * p2 + B * (p0 * q2 + p2 * q0) + 2 * C * q0 * q2 := by rw [← h5, ← h3, h7, h8, h9]; grind
  have c5 : b * b' = 2 * A * (p0 * p3 + p1 * p2) + B * (p0 * q3 + p3 * q0 + p1 * q2 + p2 * q1) + 2 * C * (q0 * q3 + q1 * q2) := by rw [← h5, ← h6, h7, h8, h9]; grind
  have c6 : b * c' = 2 * A * p1 * p3 + B * (p1 * q3 + p3 * q1) + 2 * C * q1 * q3 := by rw [← h5, ← h4, h7, h8, h9]; grind
  have c7 : c * a' = A * p2 * p2 + B * p2 * q2 + C * q2 * q2 := by rw [← h2, ← h3, h7, h8, h9]; grind
  have c8 : c * b' = 2 * A * p2 * p3 + B * (p2 * q3 + p3 * q2) + 2 * C * q2 * q3 := by rw [← h2, ← h6, h7, h8, h9]; grind
  have c9 : c * c' = A * p3 * p3 + B * p3 * q3 + C * q3 * q3 := by rw [← h2, ← h4, h7, h8, h9]; grind
  have key : (1 : Int) = u * x * (a * a') + u * y * (a * b') + u * z * (a * c') + v * x * (b * a') + v * y * (b * b') + v * z * (b * c') + w * x * (c * a') + w * y * (c * b') + w * z * (c * c') := by
    have : (1 : Int) = (u * a + v * b + w * c) * (x * a' + y * b' + z * c') := by rw [e, e']; rfl
    rw [this]; grind
  rw [c1, c2, c3, c4, c5, c6, c7, c8, c9] at key
  refine ⟨u * x * p0 * p0 + u * y * 2 * p0 * p1 + u * z * p1 * p1 + v * x * 2 * p0 * p2 + v * y * 2 * (p0 * p3 + p1 * p2) + v * z * 2 * p1 * p3 + w * x * p2 * p2 + w * y * 2 * p2 * p3 + w * z * p3 * p3,
    u * x * p0 * q0 + u * y * (p0 * q1 + p1 * q0) + u * z * p1 * q1 + v * x * (p0 * q2 + p2 * q0) + v * y * (p0 * q3 + p3 * q0 + p1 * q2 + p2 * q1) + v * z * (p1 * q3 + p3 * q1) + w * x * p2 * q2 + w * y * (p2 * q3 + p3 * q2) + w * z * p3 * q3,
    u * x * q0 * q0 + u * y * 2 * q0 * q1 + u * z * q1 * q1 + v * x * 2 * q0 * q2 + v * y * 2 * (q0 * q3 + q1 * q2) + v * z * 2 * q1 * q3 + w * x * q2 * q2 + w * y * 2 * q2 * q3 + w * z * q3 * q3, ?_⟩
  rw [key]; grind
end
section
/-! reduced forms -/
theorem rd_low {a b c : Int} (x y : Int) (h1 : -a ≤ b) (h2 : b ≤ a) (h3 : a ≤ c) : ∃ X Y : Int, 0 ≤ X ∧ 0 ≤ Y ∧ (X = x ∨ X = -x) ∧ (Y = y ∨ Y = -y) ∧ a * (X * X - X * Y + Y * Y) ≤ a * x * x + b * x * y + c * y * y := by
  have hy : 0 ≤ (c - a) * (y * y) := Int.mul_nonneg (by omega) (by rcases Int.le_total 0 y with h | h; exact Int.mul_nonneg h h; exact Int.mul_nonneg_of_nonpos_of_nonpos h h)
  rcases Int.le_total 0 x with hx | hx <;> rcases Int.le_total 0 y with h | h
  · have := Int.mul_nonneg (show 0 ≤ a + b by omega) (Int.mul_nonneg hx h)
    exact ⟨x, y, hx, h, Or.inl rfl, Or.inl rfl, by grind⟩
  · have := Int.mul_nonneg (show 0 ≤ a - b by omega) (Int.mul_nonneg hx (show 0 ≤ -y by omega))
    exact ⟨x, -y, hx, by omega, Or.inl rfl, Or.inr rfl, by grind⟩
  · have := Int.mul_nonneg (show 0 ≤ a - b by omega) (Int.mul_nonneg (show 0 ≤ -x by omega) h)
    exact ⟨-x, y, by omega, h, Or.inr rfl, Or.inl rfl, by grind⟩
  · have := Int.mul_nonneg (show 0 ≤ a + b by omega) (Int.mul_nonneg (show 0 ≤ -x by omega) (show 0 ≤ -y by omega))
    exact ⟨-x, -y, by omega, by omega, Or.inr rfl, Or.inr rfl, by grind⟩
theorem rd_one {X Y : Int} (hX : 0 ≤ X) (hY : 0 ≤ Y) (h : ¬ (X = 0 ∧ Y = 0)) : 1 ≤ X * X - X * Y + Y * Y := by
  rcases Int.le_total X Y with h1 | h1
  · have a1 := Int.mul_nonneg hY (show 0 ≤ Y - X by omega)
    by_cases h0 : X = 0
    · subst h0
      have a2 := Int.mul_le_mul (show 1 ≤ Y by omega) (show 1 ≤ Y by omega) (by omega) hY
      grind
    · have a2 := Int.mul_le_mul (show 1 ≤ X by omega) (show 1 ≤ X by omega) (by omega) hX
      grind
  · have a1 := Int.mul_nonneg hX (show 0 ≤ X - Y by omega)
    by_cases h0 : Y = 0
    · subst h0
      have a2 := Int.mul_le_mul (show 1 ≤ X by omega) (show 1 ≤ X by omega) (by omega) hX
      grind
    · have a2 := Int.mul_le_mul (show 1 ≤ Y by omega) (show 1 ≤ Y by omega) (by omega) hY
      grind
theorem rd_two {X Y : Int} (hX : 0 ≤ X) (hY : 0 ≤ Y) (h : X * X - X * Y + Y * Y ≤ 1) : Y ≤ 1 := by
  refine Int.not_lt.mp (fun h2 => ?_)
  rcases Int.lt_or_le X Y with h1 | h1
  · have a1 := Int.mul_le_mul (show 2 ≤ Y by omega) (show 1 ≤ Y - X by omega) (by omega) hY
    have a2 := Int.mul_nonneg hX hX
    grind
  · have a1 := Int.mul_nonneg hX (show 0 ≤ X - Y by omega)
    have a2 := Int.mul_le_mul (show 2 ≤ Y by omega) (show 2 ≤ Y by omega) (by omega) hY
    grind
theorem rd_min {a b c x y : Int} (ha : 0 < a) (h1 : -a ≤ b) (h2 : b ≤ a) (h3 : a ≤ c) (h : ¬ (x = 0 ∧ y = 0)) : a ≤ a * x * x + b * x * y + c * y * y := by
  obtain ⟨X, Y, hX, hY, eX, eY, hl⟩ := rd_low x y h1 h2 h3
  have h4 := rd_one hX hY (by omega)
  have h5 := Int.mul_le_mul_of_nonneg_left h4 (show 0 ≤ a by omega)
  omega
theorem rd_small {t a : Int} (ha : 0 < a) (h1 : -2 * a < 2 * a * t) (h2 : 2 * a * t < 2 * a) : t = 0 := by
  rcases Int.lt_trichotomy t 0 with h | h | h
  · have := Int.mul_le_mul_of_nonneg_left (show t ≤ -1 by omega) (show 0 ≤ 2 * a by omega)
    grind
  · exact h
  · have := Int.mul_le_mul_of_nonneg_left (show 1 ≤ t by omega) (show 0 ≤ 2 * a by omega)
    grind
theorem rd_c {a b c c' : Int} (ha : 0 < a) (h : b * b - 4 * a * c' = b * b - 4 * a * c) : c = c' := by
  have h2 : a * c = a * c' := by grind
  exact Int.eq_of_mul_eq_mul_left (by omega) h2
/-- for each form there is just one reduced one that is alike -/
theorem rd_unique {a b c a' b' c' : Int} (ha : 0 < a) (ha' : 0 < a') (hr : isRd a b c) (hr' : isRd a' b' c') (h : fEq a b c a' b' c') : a = a' ∧ b = b' ∧ c = c' := by
  obtain ⟨r1, r2, r3, r4⟩ := hr
  obtain ⟨r1', r2', r3', r4'⟩ := hr'
  have hd := fEq_disc h
  have e : a = a' := by
    have l1 : a ≤ a' := by
      obtain ⟨p, q, r, s, h1, h2, h3, h4⟩ := h
      rw [h2]
      refine rd_min ha (by omega) r2 r3 (fun h0 => ?_)
      rw [h0.1, h0.2] at h1
      omega
    have l2 : a' ≤ a := by
      obtain ⟨p, q, r, s, h1, h2, h3, h4⟩ := fEq_symm h
      rw [h2]
      refine rd_min ha' (by omega) r2' r3' (fun h0 => ?_)
      rw [h0.1, h0.2] at h1
      omega
    omega
  subst e
  obtain ⟨p, q, r, s, h1, h2, h3, h4⟩ := h
  obtain ⟨X, Y, hX, hY, eX, eY, hl⟩ := rd_low p r (show -a ≤ b by omega) r2 r3
  have hm : X * X - X * Y + Y * Y ≤ 1 := by
    refine Int.not_lt.mp (fun h5 => ?_)
    have := Int.mul_le_mul_of_nonneg_left (show 2 ≤ X * X - X * Y + Y * Y by omega) (show 0 ≤ a by omega)
    omega
  have hY1 := rd_two hX hY hm
  have hX1 := rd_two hY hX (by grind)
  by_cases hr0 : r = 0
  · subst hr0
    have hps : p * s = 1 := by grind
    have hb : b' = b + 2 * a * (p * q) := by rw [h3]; grind
    have ht := rd_small (t := p * q) ha (by omega) (by omega)
    have hb2 : b = b' := by rw [hb, ht]; omega
    subst hb2
    exact ⟨rfl, rfl, rd_c ha hd⟩
  · by_cases hp0 : p = 0
    · subst hp0
      have hrr : r * r = 1 := by
        rcases (show r = 1 ∨ r = -1 by omega) with rfl | rfl <;> rfl
      have hac : a = c := by
        have : a = c * (r * r) := by grind
        rw [hrr] at this; omega
      have hqr : q * r = -1 := by grind
      have hb : b' = -b + 2 * a * (r * s) := by
        have : b' = b * (q * r) + 2 * c * (r * s) := by grind
        rw [this, hqr, ← hac]; grind
      subst hac
      have hb0 := r4 rfl
      rcases Int.lt_trichotomy (r * s) 0 with ht | ht | ht
      · have := Int.mul_le_mul_of_nonneg_left (show r * s ≤ -1 by omega) (show 0 ≤ 2 * a by omega)
        omega
      · rw [ht] at hb
        have hb2 : b' = -b := by omega
        subst hb2
        have hc2 := rd_c (b := b) (c := a) (c' := c') ha (by grind)
        have := r4' hc2
        exact ⟨rfl, by omega, hc2⟩
      · rcases (show r * s = 1 ∨ 2 ≤ r * s by omega) with h5 | h5
        · rw [h5] at hb
          have hb2 : b = b' := by omega
          subst hb2
          exact ⟨rfl, rfl, rd_c ha hd⟩
        · have := Int.mul_le_mul_of_nonneg_left h5 (show 0 ≤ 2 * a by omega)
          omega
    · have hca : c ≤ a := by
        rcases (show p = 1 ∨ p = -1 by omega) with rfl | rfl <;> rcases (show r = 1 ∨ r = -1 by omega) with rfl | rfl <;> grind
      have hac : a = c := by omega
      subst hac
      have hb0 := r4 rfl
      have hba : b = a := by
        rcases (show p = 1 ∨ p = -1 by omega) with rfl | rfl <;> rcases (show r = 1 ∨ r = -1 by omega) with rfl | rfl <;> grind
      subst hba
      have hbb : b' * b' ≤ b * b := by
        have a1 := Int.mul_nonneg (show 0 ≤ b - b' by omega) (show 0 ≤ b + b' by omega)
        grind
      have hc : c' ≤ b := by
        refine Int.not_lt.mp (fun h5 => ?_)
        have := Int.mul_le_mul_of_nonneg_left (show b + 1 ≤ c' by omega) (show 0 ≤ b by omega)
        grind
      have hc2 : c' = b := by omega
      subst hc2
      have hb2 : b' * b' = c' * c' := by grind
      have hb3 : (b' - c') * (b' + c') = 0 := by grind
      rcases Int.mul_eq_zero.mp hb3 with h5 | h5
      · exact ⟨rfl, by omega, rfl⟩
      · omega
/-- of a reduced form with 4 a c - b b = d: 3 a a ≤ d -/
theorem rd_bound {a b c d : Int} (ha : 0 < a) (hr : isRd a b c) (hd : 4 * a * c - b * b = d) : 3 * (a * a) ≤ d := by
  obtain ⟨r1, r2, r3, r4⟩ := hr
  have h1 := Int.mul_nonneg (show 0 ≤ a - b by omega) (show 0 ≤ a + b by omega)
  have h2 := Int.mul_le_mul_of_nonneg_left r3 (show 0 ≤ a by omega)
  grind
theorem rd_sq {a n m : Int} (h0 : 0 ≤ n) (h : 3 * (a * a) ≤ m) (hm : m < 3 * ((n + 1) * (n + 1))) : a ≤ n := by
  refine Int.not_lt.mp (fun h5 => ?_)
  have := Int.mul_le_mul (show n + 1 ≤ a by omega) (show n + 1 ≤ a by omega) (by omega) (by omega)
  omega
end
section
/-! Euclid's steps -/
def euI (p q n hi lo f fl s sl : Int) : Prop :=
  f * p + s * q = hi ∧ fl * p + sl * q = lo ∧
  (∃ e : Int, (e = 1 ∨ e = -1) ∧ f * lo - fl * hi = e * q ∧ s * lo - sl * hi = -(e * p)) ∧
  (f * lo) * (fl * hi) ≤ 0 ∧ (s * lo) * (sl * hi) ≤ 0 ∧
  f.natAbs ≤ max 1 q.natAbs ∧ s.natAbs ≤ max 1 p.natAbs ∧
  hi.natAbs ≤ max p.natAbs q.natAbs ∧ lo.natAbs ≤ max p.natAbs q.natAbs ∧
  ((n = 0 ∧ fl = 0 ∧ sl = 1) ∨ (1 ≤ n ∧ lo.natAbs < hi.natAbs ∧ ∃ k : Nat, n + k ≤ 100 ∧ hi.natAbs * lo.natAbs < 2 ^ k))
theorem eu_sg {x y : Int} (h : x * y ≤ 0) : (x ≤ 0 ∧ 0 ≤ y) ∨ (0 ≤ x ∧ y ≤ 0) := by
  rcases Int.lt_trichotomy x 0 with h1 | h1 | h1
  · left
    refine ⟨by omega, Int.not_lt.mp (fun h2 => ?_)⟩
    have := Int.mul_pos_of_neg_of_neg h1 h2
    omega
  · omega
  · right
    refine ⟨by omega, Int.not_lt.mp (fun h2 => ?_)⟩
    have := Int.mul_pos h1 h2
    omega
theorem eu_tm (a b : Int) : a - a.tdiv b * b = a.tmod b := by have := Int.tmod_def a b; have h2 : a.tdiv b * b = b * a.tdiv b := Int.mul_comm _ _; omega
/-- what is cut off has the sign of the whole -/
theorem eu_same (a b : Int) : 0 ≤ a.tmod b * a ∧ 0 ≤ (a.tdiv b * b) * a.tmod b := by
  have e := eu_tm a b
  have h1 := tmod_abs a b
  rcases Int.le_total 0 a with h0 | h0
  · have h2 := Int.tmod_nonneg b h0
    refine ⟨Int.mul_nonneg h2 h0, Int.mul_nonneg ?_ h2⟩
    omega
  · have h3 : (-a).tmod b = -(a.tmod b) := Int.neg_tmod a b
    have h2 := Int.tmod_nonneg (a := -a) b (by omega)
    refine ⟨Int.mul_nonneg_of_nonpos_of_nonpos (by omega) h0, Int.mul_nonneg_of_nonpos_of_nonpos ?_ (by omega)⟩
    omega
theorem eu_sign {f fl lo hi : Int} (h : (f * lo) * (fl * hi) ≤ 0) : (fl * hi.tmod lo) * ((f - hi.tdiv lo * fl) * lo) ≤ 0 := by
  obtain ⟨h1, h2⟩ := eu_same hi lo
  have e : (fl * hi.tmod lo) * ((f - hi.tdiv lo * fl) * lo) = (f * lo * fl) * hi.tmod lo - (fl * fl) * ((hi.tdiv lo * lo) * hi.tmod lo) := by grind
  have h3 : 0 ≤ (fl * fl) * ((hi.tdiv lo * lo) * hi.tmod lo) := Int.mul_nonneg (by rcases Int.le_total 0 fl with h | h; exact Int.mul_nonneg h h; exact Int.mul_nonneg_of_nonpos_of_nonpos h h) h2
  have h4 : (f * lo * fl) * hi.tmod lo ≤ 0 := by
    have h5 : (f * lo * fl) * hi ≤ 0 := by rw [Int.mul_assoc]; exact h
    have h6 := tmod_abs hi lo
    generalize f * lo * fl = z at h5 ⊢
    generalize hi.tmod lo = r at h1 h6 ⊢
    rcases Int.lt_trichotomy hi 0 with h7 | h7 | h7
    · have hr : r ≤ 0 := by
        refine Int.not_lt.mp (fun h8 => ?_)
        have := Int.mul_neg_of_pos_of_neg h8 h7
        omega
      have hz : 0 ≤ z := by
        refine Int.not_lt.mp (fun h8 => ?_)
        have := Int.mul_pos_of_neg_of_neg h8 h7
        omega
      exact Int.mul_nonpos_of_nonneg_of_nonpos hz hr
    · have hr : r = 0 := by omega
      rw [hr]; omega
    · have hr : 0 ≤ r := by
        refine Int.not_lt.mp (fun h8 => ?_)
        have := Int.mul_neg_of_neg_of_pos h8 h7
        omega
      have hz : z ≤ 0 := by
        refine Int.not_lt.mp (fun h8 => ?_)
        have := Int.mul_pos h8 h7
        omega
      exact Int.mul_nonpos_of_nonpos_of_nonneg hz hr
  omega
theorem eu_le {x y e q : Int} (he : e = 1 ∨ e = -1) (h : x - y = e * q) (hs : x * y ≤ 0) : y.natAbs ≤ q.natAbs := by
  rcases he with rfl | rfl <;> rcases eu_sg hs with h1 | h1 <;> omega
theorem eu_half {a b : Nat} (hb : 0 < b) (h : b < a) : 2 * (a % b) < a := by
  have h1 := Nat.mod_lt a hb
  have h2 := Nat.div_add_mod a b
  have h3 : 1 ≤ a / b := Nat.div_pos (by omega) hb
  have h4 := Nat.mul_le_mul_left b h3
  omega
theorem eu_cnt0 {a b : Nat} (ha : a < 281474976710656) (hb : b < 281474976710656) : a * b < 2 ^ 96 := by
  have h := Nat.mul_lt_mul'' ha hb
  have e : (2 : Nat) ^ 96 = 281474976710656 * 281474976710656 := by decide
  rw [e]; exact h
theorem eu_cnt1 {a b k : Nat} (hb : 0 < b) (h : b < a) (hk : a * b < 2 ^ k) : ∃ j, k = j + 1 ∧ b * (a % b) < 2 ^ j := by
  have h0 := Nat.mul_pos (show 0 < a by omega) hb
  have hk0 : k ≠ 0 := by
    rintro rfl
    rw [Nat.pow_zero] at hk; omega
  obtain ⟨j, rfl⟩ : ∃ j, k = j + 1 := ⟨k - 1, by omega⟩
  refine ⟨j, rfl, ?_⟩
  have h16 := eu_half hb h
  have h17 := Nat.mul_le_mul_left b (show 2 * (a % b) ≤ a by omega)
  rw [Nat.pow_succ] at hk
  generalize 2 ^ j = w at hk ⊢
  have h18 : b * (2 * (a % b)) = 2 * (b * (a % b)) := by grind
  have h19 : b * a = a * b := Nat.mul_comm _ _
  omega
theorem eu_init (p q : Int) : euI p q 0 p q 1 0 0 1 := by
  refine ⟨by omega, by omega, ⟨1, Or.inl rfl, by omega, by omega⟩, by omega, by omega, by omega, by omega, by omega, by omega, Or.inl ⟨rfl, rfl, rfl⟩⟩
set_option maxHeartbeats 100000 in
theorem eu_step {p q n hi lo f fl s sl : Int} (hp : p.natAbs < 281474976710656) (hq : q.natAbs < 281474976710656) (h : euI p q n hi lo f fl s sl) (h0 : lo ≠ 0) :
    euI p q (n + 1) lo (hi - quo hi lo * lo) fl (f - quo hi lo * fl) sl (s - quo hi lo * sl) ∧ n < 100000 ∧ (hi - quo hi lo * lo).natAbs < lo.natAbs := by
  obtain ⟨h1, h2, ⟨e, he, h3, h4⟩, h5, h6, h7, h8, h9, h10, h11⟩ := h
  have eq : quo hi lo = hi.tdiv lo := by unfold quo; rw [if_neg h0]
  have em : hi - hi.tdiv lo * lo = hi.tmod lo := eu_tm hi lo
  have hlt : (hi.tmod lo).natAbs < lo.natAbs := by rw [Int.natAbs_tmod]; exact Nat.mod_lt _ (Int.natAbs_pos.mpr h0)
  have b1 : fl.natAbs ≤ max 1 q.natAbs ∧ sl.natAbs ≤ max 1 p.natAbs := by
    rcases h11 with ⟨-, g1, g2⟩ | ⟨-, h12, -⟩
    · subst g1 g2; exact ⟨Nat.zero_le _, Nat.le_max_left _ _⟩
    · have c1 := eu_le he h3 h5
      have c2 := eu_le (q := -p) he (by rw [h4]; grind) h6
      rw [Int.natAbs_mul] at c1 c2
      have d1 := Nat.le_mul_of_pos_right fl.natAbs (show 0 < hi.natAbs from Nat.lt_of_le_of_lt (Nat.zero_le _) h12)
      have d2 := Nat.le_mul_of_pos_right sl.natAbs (show 0 < hi.natAbs from Nat.lt_of_le_of_lt (Nat.zero_le _) h12)
      rw [Int.natAbs_neg] at c2
      exact ⟨Nat.le_trans (Nat.le_trans d1 c1) (Nat.le_max_right _ _), Nat.le_trans (Nat.le_trans d2 c2) (Nat.le_max_right _ _)⟩
  have hn : 0 ≤ n ∧ n ≤ 100 := by
    rcases h11 with ⟨h, -⟩ | ⟨h, -, k, h2, -⟩
    · rw [h]; decide
    · exact ⟨Int.le_trans (by decide) h, Int.le_trans (Int.le_add_of_nonneg_right (Int.natCast_nonneg k)) h2⟩
  have g2 : (f - hi.tdiv lo * fl) * p + (s - hi.tdiv lo * sl) * q = hi.tmod lo := by rw [← em, ← h1, ← h2]; grind
  have g3 : fl * hi.tmod lo - (f - hi.tdiv lo * fl) * lo = -e * q := by
    have : fl * (hi - hi.tdiv lo * lo) - (f - hi.tdiv lo * fl) * lo = -(f * lo - fl * hi) := by grind
    rw [← em, this, h3]; grind
  have g4 : sl * hi.tmod lo - (s - hi.tdiv lo * sl) * lo = -(-e * p) := by
    have : sl * (hi - hi.tdiv lo * lo) - (s - hi.tdiv lo * sl) * lo = -(s * lo - sl * hi) := by grind
    rw [← em, this, h4]; grind
  have g5 := eu_sign h5
  have g6 := eu_sign h6
  have g9 : (hi.tmod lo).natAbs ≤ max p.natAbs q.natAbs := Nat.le_trans (Nat.le_of_lt hlt) h10
  have ge : -e = 1 ∨ -e = -1 := he.elim (fun h => Or.inr (by rw [h])) (fun h => Or.inl (by rw [h]; rfl))
  have g11 : ∃ k : Nat, n + 1 + k ≤ 100 ∧ lo.natAbs * (hi.tmod lo).natAbs < 2 ^ k := by
    clear h3 h4 h5 h6 g2 g3 g4 g5 g6 em
    rcases h11 with ⟨rfl, -, -⟩ | ⟨h12, h13, k, h14, h15⟩
    · have k1 : lo.natAbs < 281474976710656 := Nat.lt_of_le_of_lt h10 (Nat.max_lt.mpr ⟨hp, hq⟩)
      exact ⟨96, by decide, eu_cnt0 k1 (Nat.lt_trans hlt k1)⟩
    · obtain ⟨j, rfl, hj⟩ := eu_cnt1 (Int.natAbs_pos.mpr h0) h13 h15
      rw [← Int.natAbs_tmod] at hj
      clear h15
      exact ⟨j, by clear hj h7 h8 h9 h10 h13 hlt b1 g9 hp hq; omega, hj⟩
  rw [eq, em]
  exact ⟨⟨h2, g2, ⟨-e, ge, g3, g4⟩, g5, g6, b1.1, b1.2, h10, g9, Or.inr ⟨Int.le_add_of_nonneg_left hn.1, hlt, g11⟩⟩, Int.lt_of_le_of_lt hn.2 (by decide), hlt⟩
theorem eu_lt {p q n hi lo f fl s sl : Int} (h : euI p q n hi lo f fl s sl) : 0 ≤ n ∧ n ≤ 100 := by
  obtain ⟨-, -, -, -, -, -, -, -, -, h11⟩ := h
  rcases h11 with ⟨h, -⟩ | ⟨h, -, k, h2, -⟩ <;> omega
/-- the greatest common divisor, and how it comes of the two -/
def isEu (p q g u v : Int) : Prop := u * p + v * q = g ∧ 0 ≤ g ∧ g ∣ p ∧ g ∣ q ∧ u.natAbs ≤ max 1 q.natAbs ∧ v.natAbs ≤ max 1 p.natAbs
theorem eu_end {p q n hi f fl s sl : Int} (h : euI p q n hi 0 f fl s sl) {z : Int} (hz : z = if hi < 0 then -1 else 1) : isEu p q (z * hi) (z * f) (z * s) := by
  obtain ⟨h1, h2, ⟨e, he, h3, h4⟩, h5, h6, h7, h8, h9, h10, h11⟩ := h
  clear h11
  have hzz : z = 1 ∨ z = -1 := by rw [hz]; split <;> omega
  have d1 : hi ∣ q := by
    rcases he with rfl | rfl
    · exact ⟨-fl, by grind⟩
    · exact ⟨fl, by grind⟩
  have d2 : hi ∣ p := by
    rcases he with rfl | rfl
    · exact ⟨sl, by grind⟩
    · exact ⟨-sl, by grind⟩
  have d3 : z * hi ∣ hi := by rcases hzz with rfl | rfl; exact ⟨1, by omega⟩; exact ⟨-1, by omega⟩
  refine ⟨by rw [← h1]; grind, ?_, Int.dvd_trans d3 d2, Int.dvd_trans d3 d1, ?_, ?_⟩
  · rw [hz]; split <;> omega
  · rcases hzz with rfl | rfl <;> omega
  · rcases hzz with rfl | rfl <;> omega
theorem stF_u0 (L : Nat → Nat → Int) (a : Nat) (x y z v : Int) : up2 (stF L a x y z) a 0 v = stF L a v y z := by
  funext b k; simp only [stF, up2]; repeat' split
  all_goals first | rfl | omega
theorem stF_u1 (L : Nat → Nat → Int) (a : Nat) (x y z v : Int) : up2 (stF L a x y z) a 1 v = stF L a x v z := by
  funext b k; simp only [stF, up2]; repeat' split
  all_goals first | rfl | omega
theorem stF_u2 (L : Nat → Nat → Int) (a : Nat) (x y z v : Int) : up2 (stF L a x y z) a 2 v = stF L a x y v := by
  funext b k; simp only [stF, up2]; repeat' split
  all_goals first | rfl | omega
theorem stF_12 (L : Nat → Nat → Int) (a : Nat) (y z : Int) : up2 (up2 L a 1 y) a 2 z = stF L a (L a 0) y z := by
  have h := stF_self L a
  have h1 : up2 (up2 L a 1 y) a 2 z = up2 (up2 (stF L a (L a 0) (L a 1) (L a 2)) a 1 y) a 2 z := by rw [h]
  rw [h1, stF_u1, stF_u2]
end
section
/-! the class's way to the reduced form -/
theorem rmd_mod {p q : Int} (hq : 0 < q) : rmd p q = p % q := by
  unfold rmd
  rw [if_neg (by omega)]
  have h1 := eu_tm p q
  have h2 : (p.tmod q).natAbs < q.natAbs := by rw [Int.natAbs_tmod]; exact Nat.mod_lt _ (by omega)
  have h3 := Int.emod_add_mul_ediv p q
  have h4 := Int.emod_nonneg p (show q ≠ 0 by omega)
  have h5 := Int.emod_lt_of_pos p hq
  by_cases h : p.tmod q < 0
  · rw [if_pos h]
    have e : q * (p.tdiv q - 1 - p / q) = p % q - (p.tmod q + q) := by grind
    have hz : p.tdiv q - 1 - p / q = 0 := by
      rcases Int.lt_trichotomy (p.tdiv q - 1 - p / q) 0 with h6 | h6 | h6
      · have := Int.mul_le_mul_of_nonneg_left (show p.tdiv q - 1 - p / q ≤ -1 by omega) (show 0 ≤ q by omega)
        omega
      · exact h6
      · have := Int.mul_le_mul_of_nonneg_left (show 1 ≤ p.tdiv q - 1 - p / q by omega) (show 0 ≤ q by omega)
        omega
    rw [hz] at e; omega
  · rw [if_neg h]
    have e : q * (p.tdiv q - p / q) = p % q - p.tmod q := by grind
    have hz : p.tdiv q - p / q = 0 := by
      rcases Int.lt_trichotomy (p.tdiv q - p / q) 0 with h6 | h6 | h6
      · have := Int.mul_le_mul_of_nonneg_left (show p.tdiv q - p / q ≤ -1 by omega) (show 0 ≤ q by omega)
        omega
      · exact h6
      · have := Int.mul_le_mul_of_nonneg_left (show 1 ≤ p.tdiv q - p / q by omega) (show 0 ≤ q by omega)
        omega
    rw [hz] at e; omega
theorem quo_mul {q w : Int} (hq : q ≠ 0) : quo (q * w) q = w := by
  unfold quo; rw [if_neg hq]; exact Int.mul_tdiv_cancel_left w hq
/-- b brought near zero -/
theorem st_near {x y z d : Int} (hx : 0 < x) (hd : y * y - 4 * x * z = -d) :
    fEq x y z x (x - rmd (x - y) (2 * x)) (quo ((x - rmd (x - y) (2 * x)) * (x - rmd (x - y) (2 * x)) + d) (4 * x)) ∧ -x < x - rmd (x - y) (2 * x) ∧ x - rmd (x - y) (2 * x) ≤ x := by
  rw [rmd_mod (by omega)]
  have h1 := Int.emod_add_mul_ediv (x - y) (2 * x)
  have h2 := Int.emod_nonneg (x - y) (show 2 * x ≠ 0 by omega)
  have h3 := Int.emod_lt_of_pos (x - y) (show 0 < 2 * x by omega)
  generalize (x - y) / (2 * x) = k at h1
  generalize (x - y) % (2 * x) = r at h1 h2 h3 ⊢
  have e1 : x - r = y + 2 * x * k := by omega
  have e2 : (x - r) * (x - r) + d = 4 * x * (z + k * y + x * k * k) := by rw [e1]; grind
  refine ⟨?_, by omega, by omega⟩
  rw [e2, quo_mul (by omega), e1]
  exact fEq_move x y z k
/-- how many turns are left at most -/
def stB (a : Int) : Nat := min a.toNat 31623 + Nat.log2 a.toNat
theorem stB_le {a : Int} (h : a ≤ 2147483648) : stB a ≤ 31623 + 31 := by
  unfold stB
  have : Nat.log2 a.toNat ≤ 31 := by
    by_cases h0 : a.toNat = 0
    · rw [h0]; decide
    · have := (Nat.log2_lt h0 (k := 32)).mpr (by omega)
      omega
  omega
theorem stB_dec {a c : Int} (hc : 0 < c) (h : c < a) (h2 : 31623 < a → 2 * c ≤ a) : stB c + 1 ≤ stB a := by
  unfold stB
  have hm : Nat.log2 c.toNat ≤ Nat.log2 a.toNat := by
    have h0 : a.toNat ≠ 0 := by omega
    have h1 := Nat.lt_log2_self (n := a.toNat)
    have := (Nat.log2_lt (show c.toNat ≠ 0 by omega) (k := Nat.log2 a.toNat + 1)).mpr (by omega)
    omega
  by_cases h3 : 31623 < a
  · have h4 : Nat.log2 c.toNat + 1 ≤ Nat.log2 a.toNat := by
      have h1 := Nat.lt_log2_self (n := a.toNat)
      rw [Nat.pow_succ] at h1
      have h5 := h2 h3
      have := (Nat.log2_lt (show c.toNat ≠ 0 by omega) (k := Nat.log2 a.toNat)).mpr (by omega)
      omega
    omega
  · omega
/-- at the loop's head -/
def stI (d a0 b0 c0 n a b c : Int) : Prop := 0 < a ∧ 0 < c ∧ b * b - 4 * a * c = -d ∧ fEq a0 b0 c0 a b c ∧ a ≤ 2147483648 ∧ (-2305843009213693952 ≤ b ∧ b ≤ 2305843009213693952) ∧ c ≤ 2305843009213693952 ∧ (0 ≤ n ∧ n ≤ 100000) ∧ (n = 0 ∨ isRd a b c ∨ (-a < b ∧ b ≤ a ∧ n + stB a ≤ 40000))
theorem st_pos {x y z d : Int} (hx : 0 < x) (hd : y * y - 4 * x * z = -d) (h : 0 < d) : 0 < z := by
  refine Int.not_le.mp (fun h1 => ?_)
  have h2 := Int.mul_nonpos_of_nonneg_of_nonpos (show 0 ≤ 4 * x by omega) h1
  have h3 : 0 ≤ y * y := by rcases Int.le_total 0 y with h | h; exact Int.mul_nonneg h h; exact Int.mul_nonneg_of_nonpos_of_nonpos h h
  omega
theorem st_cle {x y z d : Int} (hx : 0 < x) (hy : -x ≤ y) (hy2 : y ≤ x) (hd : y * y - 4 * x * z = -d) (hd2 : d ≤ 1000000000) : z ≤ x + 1000000000 := by
  have h1 := Int.mul_nonneg (show 0 ≤ x - y by omega) (show 0 ≤ x + y by omega)
  refine Int.not_lt.mp (fun h2 => ?_)
  have h3 := Int.mul_le_mul_of_nonneg_left (show x + 1000000001 ≤ z by omega) (show 0 ≤ x by omega)
  have h4 := Int.mul_nonneg (show 0 ≤ x by omega) (show 0 ≤ x by omega)
  grind
theorem st_turn {d a0 b0 c0 n a b c x y z : Int} (hd0 : 0 < d) (hd9 : d ≤ 1000000000) (hI : stI d a0 b0 c0 n a b c) (hnr : ¬ isRd a b c) (hxyz : (c ≤ a ∧ x = c ∧ y = -b ∧ z = a) ∨ (a < c ∧ x = a ∧ y = b ∧ z = c)) :
    stI d a0 b0 c0 (n + 1) x (x - rmd (x - y) (2 * x)) (quo ((x - rmd (x - y) (2 * x)) * (x - rmd (x - y) (2 * x)) + d) (4 * x)) ∧ n < 100000 := by
  obtain ⟨h1, h2, h3, h4, h5, h6, h7, h8, h9⟩ := hI
  have hxp : 0 < x := by omega
  have hdx : y * y - 4 * x * z = -d := by
    rcases hxyz with ⟨-, rfl, rfl, rfl⟩ | ⟨-, rfl, rfl, rfl⟩
    · grind
    · exact h3
  have hEx : fEq a b c x y z := by
    rcases hxyz with ⟨-, rfl, rfl, rfl⟩ | ⟨-, rfl, rfl, rfl⟩
    · exact fEq_swap _ _ _
    · exact fEq_rfl _ _ _
  obtain ⟨e1, e2, e3⟩ := st_near hxp hdx
  have e4 := fEq_disc e1
  have hlt : n < 100000 := by
    rcases h9 with h | h | h
    · omega
    · exact absurd h hnr
    · omega
  -- the turns that are left
  have hB : isRd x (x - rmd (x - y) (2 * x)) (quo ((x - rmd (x - y) (2 * x)) * (x - rmd (x - y) (2 * x)) + d) (4 * x)) ∨ n + 1 + stB x ≤ 40000 := by
    rcases h9 with h | h | ⟨g1, g2, g3⟩
    · right
      have := stB_le (show x ≤ 2147483648 by omega)
      omega
    · exact absurd h hnr
    · rcases Int.lt_trichotomy a c with h10 | h10 | h10
      · exact absurd ⟨g1, g2, by omega, fun h => by omega⟩ hnr
      · -- a = c and b < 0
        have hb : b < 0 := by
          refine Int.not_le.mp (fun h => hnr ⟨g1, g2, by omega, fun _ => h⟩)
        left
        have hxa : x = a := by omega
        have hya : y = -b := by omega
        rw [hxa, hya]
        have hr : rmd (a - -b) (2 * a) = a + b := by
          rw [rmd_mod (by omega)]
          have : a - -b = a + b := by omega
          rw [this]
          exact Int.emod_eq_of_lt (by omega) (by omega)
        rw [hr]
        have e5 : a - (a + b) = -b := by omega
        rw [e5]
        have e6 : -b * -b + d = 4 * a * a := by rw [h10.symm] at h3; grind
        rw [e6, quo_mul (by omega)]
        exact ⟨by omega, by omega, by omega, fun _ => by omega⟩
      · right
        have hx2 : x = c := by omega
        have := stB_dec (a := a) (c := c) h2 h10 (fun h11 => by
          -- 4 a c = b b + d ≤ a a + d ≤ 2 a a
          have k1 := Int.mul_nonneg (show 0 ≤ a - b by omega) (show 0 ≤ a + b by omega)
          have k2 := Int.mul_le_mul (show 31624 ≤ a by omega) (show 31624 ≤ a by omega) (by omega) (by omega)
          refine Int.not_lt.mp (fun h12 => ?_)
          have k3 := Int.mul_le_mul_of_nonneg_left (show a + 1 ≤ 2 * c by omega) (show 0 ≤ a by omega)
          grind)
        rw [hx2]; omega
  generalize x - rmd (x - y) (2 * x) = nb at e1 e2 e3 e4 hB ⊢
  generalize quo (nb * nb + d) (4 * x) = nc at e1 e4 hB ⊢
  have hdn : nb * nb - 4 * x * nc = -d := by omega
  have hc := st_cle hxp (by omega) e3 hdn hd9
  refine ⟨⟨hxp, st_pos hxp hdn hd0, hdn, fEq_trans h4 (fEq_trans hEx e1), by omega, by omega, by omega, by omega, ?_⟩, hlt⟩
  rcases hB with h | h
  · exact Or.inr (Or.inl h)
  · exact Or.inr (Or.inr ⟨e2, e3, h⟩)
end
section
/-! the class's product -/
def isMul (a b c a' b' c' x y z : Int) : Prop := isRd x y z ∧ 0 < x ∧ ∃ A B C, fCu a b c a' b' c' A B C ∧ fEq A B C x y z
theorem isMul_unique {a b c a' b' c' x y z x' y' z' : Int} (hp : fPr a b c) (h : isMul a b c a' b' c' x y z) (h' : isMul a b c a' b' c' x' y' z') : x = x' ∧ y = y' ∧ z = z' := by
  obtain ⟨r, p, A, B, C, h1, h2⟩ := h
  obtain ⟨r', p', A', B', C', h1', h2'⟩ := h'
  exact rd_unique p p' r r' (fEq_trans (fEq_symm h2) (fEq_trans (fCu_unique hp h1 h1') h2'))
theorem isMul_good {a b c a' b' c' x y z : Int} (h : isMul a b c a' b' c' x y z) (hp : fPr a b c) (hp' : fPr a' b' c') : fPr x y z ∧ y * y - 4 * x * z = b * b - 4 * a * c := by
  obtain ⟨r, p, A, B, C, h1, h2⟩ := h
  exact ⟨fEq_pr h2 (fCu_pr h1 hp hp'), (fEq_disc h2).trans (fCu_disc h1)⟩
theorem odd_b {a b c d : Int} (h : b * b - 4 * a * c = -d) (hd : d % 2 = 1) : b % 2 = 1 := by
  rcases (show b % 2 = 1 ∨ b % 2 = 0 by omega) with h1 | h1
  · exact h1
  · obtain ⟨k, hk⟩ : ∃ k, b = 2 * k := ⟨b / 2, by omega⟩
    have : d = 2 * (2 * (a * c) - 2 * (k * k)) := by rw [hk] at h; grind
    omega
/-- Gauss's composition -/
theorem gauss {a1 b1 c1 a2 b2 c2 d s w u v g1 e1 e2 q1 q2 r : Int} (ha1 : 0 < a1) (hd1 : b1 * b1 - 4 * a1 * c1 = -d) (hd2 : b2 * b2 - 4 * a2 * c2 = -d)
    (hs : 2 * s = b1 + b2) (hg : u * a1 + v * a2 = g1) (hw : e1 * g1 + e2 * s = w) (hw0 : w ≠ 0) (h1 : a1 = w * q1) (h2 : a2 = w * q2) (hsd : w ∣ s) (hq1 : 0 < q1)
    (hr : r = (e1 * v * (s - b2) - e2 * c2) % q1) : ∃ C, fCu a1 b1 c1 a2 b2 c2 (q1 * q2) (b2 + 2 * q2 * r) C := by
  obtain ⟨q3, h3⟩ := hsd
  have hone : e1 * (u * q1 + v * q2) + e2 * q3 = 1 := by
    have : w * (e1 * (u * q1 + v * q2) + e2 * q3) = w * 1 := by
      have k : w * (e1 * (u * q1 + v * q2) + e2 * q3) = e1 * (u * (w * q1) + v * (w * q2)) + e2 * (w * q3) := by grind
      rw [k, ← h1, ← h2, ← h3, hg, hw]; omega
    exact Int.eq_of_mul_eq_mul_left hw0 this
  have hrel : q1 * c1 - q2 * c2 = q3 * (s - b2) := by
    have : w * (q1 * c1 - q2 * c2) = w * (q3 * (s - b2)) := by
      have k1 : w * (q1 * c1 - q2 * c2) = (w * q1) * c1 - (w * q2) * c2 := by grind
      have k2 : w * (q3 * (s - b2)) = (w * q3) * (s - b2) := by grind
      rw [k1, k2, ← h1, ← h2, ← h3]
      have k3 : b1 = 2 * s - b2 := by omega
      rw [k3] at hd1
      have k4 : 4 * (a1 * c1 - a2 * c2) = 4 * (s * (s - b2)) := by grind
      omega
    exact Int.eq_of_mul_eq_mul_left hw0 this
  have hem := Int.emod_add_mul_ediv (e1 * v * (s - b2) - e2 * c2) q1
  rw [← hr] at hem
  generalize (e1 * v * (s - b2) - e2 * c2) / q1 = k at hem
  have hp2 : (e1 * u * (s - b2) + e2 * c1 + k * q2) * q1 = -(r * q2 + (b2 - s)) := by
    have t1 : r = e1 * v * (s - b2) - e2 * c2 - q1 * k := by omega
    have t2 : q2 * c2 = q1 * c1 - q3 * (s - b2) := by omega
    have t3 : e1 * v * q2 = 1 - e2 * q3 - e1 * u * q1 := by grind
    rw [t1]
    have t4 : (e1 * v * (s - b2) - e2 * c2 - q1 * k) * q2 = (e1 * v * q2) * (s - b2) - e2 * (q2 * c2) - q1 * k * q2 := by grind
    rw [t4, t3, t2]; grind
  have hp3 : -(e1 * v * c1 + e1 * u * c2 - k * q3) * q1 = -(r * q3 + c2) := by
    have t1 : r = e1 * v * (s - b2) - e2 * c2 - q1 * k := by omega
    have t3 : e1 * v * q2 = 1 - e2 * q3 - e1 * u * q1 := by grind
    rw [t1]
    have t4 : (e1 * v * (s - b2) - e2 * c2 - q1 * k) * q3 = e1 * v * (q3 * (s - b2)) - e2 * c2 * q3 - q1 * k * q3 := by grind
    rw [t4, ← hrel]
    have t5 : e1 * v * (q1 * c1 - q2 * c2) = e1 * v * q1 * c1 - (e1 * v * q2) * c2 := by grind
    rw [t5, t3]; grind
  generalize e1 * u * (s - b2) + e2 * c1 + k * q2 = p2 at hp2
  generalize -(e1 * v * c1 + e1 * u * c2 - k * q3) = p3 at hp3
  refine ⟨-r * p2 - w * p3, w, -r, p2, p3, 0, q1, q2, q3, ?_, ?_, ?_, ?_, ?_, ?_, ?_, ?_, ?_⟩
  · rw [h1]; grind
  · have : q1 * (p2 * q3 - p3 * q2) = q1 * c1 := by
      have k1 : q1 * (p2 * q3 - p3 * q2) = q3 * (p2 * q1) - q2 * (p3 * q1) := by grind
      rw [k1, hp2, hp3]; grind
    exact Int.eq_of_mul_eq_mul_left (by omega) this
  · rw [h2]; grind
  · grind
  · grind
  · grind
  · grind
  · grind
  · grind
theorem quo_dvd {p q w : Int} (hq : q ≠ 0) (h : p = q * w) : quo p q = w := by rw [h]; exact quo_mul hq
theorem sq_le {x n : Int} (h1 : -n ≤ x) (h2 : x ≤ n) : x * x ≤ n * n := by
  have := Int.mul_nonneg (show 0 ≤ n - x by omega) (show 0 ≤ n + x by omega)
  grind
theorem sq_nn (x : Int) : 0 ≤ x * x := by rcases Int.le_total 0 x with h | h; exact Int.mul_nonneg h h; exact Int.mul_nonneg_of_nonpos_of_nonpos h h
theorem ab_le {x y n m : Int} (h1 : -n ≤ x) (h2 : x ≤ n) (h3 : -m ≤ y) (h4 : y ≤ m) : -(n * m) ≤ x * y ∧ x * y ≤ n * m := by
  have k1 := Int.mul_nonneg (show 0 ≤ n - x by omega) (show 0 ≤ m - y by omega)
  have k2 := Int.mul_nonneg (show 0 ≤ n + x by omega) (show 0 ≤ m + y by omega)
  have k3 := Int.mul_nonneg (show 0 ≤ n - x by omega) (show 0 ≤ m + y by omega)
  have k4 := Int.mul_nonneg (show 0 ≤ n + x by omega) (show 0 ≤ m - y by omega)
  constructor <;> grind
/-- the numbers of a reduced form of a discriminant -/
theorem rd_rng {a b c d : Int} (ha : 0 < a) (hr : isRd a b c) (hd : b * b - 4 * a * c = -d) (hd9 : d ≤ 1000000000) : a ≤ 18257 ∧ -18257 ≤ b ∧ b ≤ 18257 ∧ 0 < c ∧ c ≤ 333333333 := by
  have h1 := rd_bound ha hr (d := d) (by omega)
  have h2 := rd_sq (n := 18257) (by decide) h1 (by omega)
  obtain ⟨r1, r2, r3, r4⟩ := hr
  refine ⟨h2, by omega, by omega, by omega, ?_⟩
  have h3 := Int.mul_nonneg (show 0 ≤ a - b by omega) (show 0 ≤ a + b by omega)
  have h4 := Int.mul_le_mul_of_nonneg_left r3 (show 0 ≤ a by omega)
  refine Int.not_lt.mp (fun h5 => ?_)
  have h6 := Int.mul_nonneg (show 0 ≤ a - 1 by omega) (show 0 ≤ c by omega)
  have h7 : (a - b) * (a + b) = a * a - b * b := by grind
  have h8 : (a - 1) * c = a * c - c := by grind
  have h9 : 4 * a * c = 4 * (a * c) := by grind
  omega
end
section
def po_find (M : qM) (h : Nat) (x y : Int) : Option Value → qM → Prop := fun v M' => v = none ∧ ∃ g u w, M' = wL M (stF (mL M) h g u w) ∧ isEu x y g u w
theorem eu_r64 {p q n hi lo f fl s sl : Int} (hp : p.natAbs < 281474976710656) (hq : q.natAbs < 281474976710656) (h : euI p q n hi lo f fl s sl) : r64 hi ∧ r64 lo := by
  obtain ⟨-, -, -, -, -, -, -, h9, h10, -⟩ := h
  have k1 : hi.natAbs < 281474976710656 := Nat.lt_of_le_of_lt h9 (Nat.max_lt.mpr ⟨hp, hq⟩)
  have k2 : lo.natAbs < 281474976710656 := Nat.lt_of_le_of_lt h10 (Nat.max_lt.mpr ⟨hp, hq⟩)
  omega
set_option maxRecDepth 100000 in
set_option maxHeartbeats 4000000 in
theorem l_find {p : Program} {e : Env} {s : State} {m : MethodId} {args : Array Value} {below : List Frame} {meth : Method} {c : Code} (l : Launch) (D : va_G) (cy : Nat → ClassId) (M : qM) (h : Nat) (hO : qO M h 0) (x y : Int) (hx : x.natAbs < 281474976710656) (hy : y.natAbs < 281474976710656) (G : qG p s m args meth c cX0_find 18 yX0_find.cls D cy (qA (mP M) s.heap.size)) (hret : meth.sig.returnType = none) : ∀ (w9 : Nat) (n hi lo f fl sd sl : Int), lo.natAbs < w9 → euI x y n hi lo f fl sd sl → qK p l e { frames := 1, cells := 0, slots := 0, locals := 23 } s m args below meth c (MQ below (qQ D cy (mP M) (po_find M h x y)) args s 0 0 (qA (mP M) s.heap.size)) 18 D cy (qA (mP M) s.heap.size) 0 0 25 [(13, .int (qI (n))), (11, .long (qL (sl))), (9, .long (qL (fl))), (7, .long (qL (lo))), (5, .long (qL (hi))), (0, .ref h)] [] (wL M (stF (mL M) h (mL M h 0) f sd)) := by
  intro w9
  induction w9 with
  | zero => intro n hi lo f fl sd sl h9; exact absurd h9 (Nat.not_lt_zero _)
  | succ w9 ih =>
    intro n hi lo f fl sd sl hm hI
    have hr := eu_r64 hx hy hI
    refine q_iload G 0 dX0_find_25 rfl ?_
    refine q_ldc (z := 100000) G dX0_find_27 tw_350 (by decide +kernel) ?_
    refine q_icmp_ge (tgt := 116) G dX0_find_29 (by decide) (by have := eu_lt hI; omega) (by have := eu_lt hI; omega) (fun c1 => ?_) (fun c1 => ?_)
    · exact absurd c1 (by have := eu_lt hI; omega)
    · refine q_lload G 3 dX0_find_32 rfl ?_
      refine q_lconst (z := 0) G dX0_find_34 (by decide +kernel) ?_
      refine q_lcmp_eq (tgt := 116) G dX0_find_35 dX0_find_36 (by decide) (by omega) (by omega) (fun c2 => ?_) (fun c2 => ?_)
      · have hI0 := hI
        rw [c2] at hI0
        refine q_lload G 4 dX0_find_116 rfl ?_
        refine q_lconst (z := 0) G dX0_find_118 (by decide +kernel) ?_
        refine q_lcmp_ge (tgt := 129) G dX0_find_119 dX0_find_120 (by decide) (by omega) (by omega) (fun c3 => ?_) (fun c3 => ?_)
        · refine q_lconst (z := 1) G dX0_find_129 (by decide +kernel) ?_
          refine q_lstore (lv' := [(13, .long (qL (1))), (11, .long (qL (sl))), (9, .long (qL (fl))), (7, .long (qL (lo))), (5, .long (qL (hi))), (0, .ref h)]) G dX0_find_130 (by decide) rfl ?_
          refine q_aload_n G 5 0 dX0_find_132 rfl rfl ?_
          refine q_lload G 0 dX0_find_133 rfl ?_
          refine q_lload G 4 dX0_find_135 rfl ?_
          refine q_lmul G dX0_find_137 ?_
          refine q_pL (z := 1 * hi) G dX0_find_138 (pl_X0_25 _) nf_0_0 hO (by decide) (Nat.le_of_ble_eq_true rfl) (fs_0_0 _ _ _) ?_
          refine q_aload_n G 5 0 dX0_find_141 rfl rfl ?_
          refine q_lload G 0 dX0_find_142 rfl ?_
          refine q_aload_n G 5 0 dX0_find_144 rfl rfl ?_
          refine q_gt (v := .long (qL (f))) G dX0_find_145 fl_X0_9 hO (by decide) rfl (by simp [mI, mL, mR, sL, sI, sR, wL, wD, stF, up2]) ?_
          refine q_lmul G dX0_find_148 ?_
          refine q_pL (z := 1 * f) G dX0_find_149 (pl_X0_9 _) nf_0_1 hO (by decide) (Nat.le_of_ble_eq_true rfl) (fs_0_1 _ _ _) ?_
          refine q_aload_n G 5 0 dX0_find_152 rfl rfl ?_
          refine q_lload G 0 dX0_find_153 rfl ?_
          refine q_aload_n G 5 0 dX0_find_155 rfl rfl ?_
          refine q_gt (v := .long (qL (sd))) G dX0_find_156 fl_X0_15 hO (by decide) rfl (by simp [mI, mL, mR, sL, sI, sR, wL, wD, stF, up2]) ?_
          refine q_lmul G dX0_find_159 ?_
          refine q_pL (z := 1 * sd) G dX0_find_160 (pl_X0_15 _) nf_0_2 hO (by decide) (Nat.le_of_ble_eq_true rfl) (fs_0_2 _ _ _) ?_
          exact q_vret G dX0_find_163 hret (by omega) (by omega) (⟨rfl, _, _, _, by simp only [sL_wL, wL_wL, mL_wL, stF_u0, stF_u1, stF_u2]; rfl, eu_end hI0 (by first | rw [if_pos (by assumption)] | rw [if_neg (Int.not_lt.mpr (by assumption))])⟩)
        · refine q_ldc2 (z := -1) G dX0_find_123 tw_352 (by decide +kernel) ?_
          refine q_goto (tgt := 130) G dX0_find_126 (by decide) ?_
          refine q_lstore (lv' := [(13, .long (qL (-1))), (11, .long (qL (sl))), (9, .long (qL (fl))), (7, .long (qL (lo))), (5, .long (qL (hi))), (0, .ref h)]) G dX0_find_130 (by decide) rfl ?_
          refine q_aload_n G 5 0 dX0_find_132 rfl rfl ?_
          refine q_lload G 0 dX0_find_133 rfl ?_
          refine q_lload G 4 dX0_find_135 rfl ?_
          refine q_lmul G dX0_find_137 ?_
          refine q_pL (z := (-1) * hi) G dX0_find_138 (pl_X0_25 _) nf_0_0 hO (by decide) (Nat.le_of_ble_eq_true rfl) (fs_0_0 _ _ _) ?_
          refine q_aload_n G 5 0 dX0_find_141 rfl rfl ?_
          refine q_lload G 0 dX0_find_142 rfl ?_
          refine q_aload_n G 5 0 dX0_find_144 rfl rfl ?_
          refine q_gt (v := .long (qL (f))) G dX0_find_145 fl_X0_9 hO (by decide) rfl (by simp [mI, mL, mR, sL, sI, sR, wL, wD, stF, up2]) ?_
          refine q_lmul G dX0_find_148 ?_
          refine q_pL (z := (-1) * f) G dX0_find_149 (pl_X0_9 _) nf_0_1 hO (by decide) (Nat.le_of_ble_eq_true rfl) (fs_0_1 _ _ _) ?_
          refine q_aload_n G 5 0 dX0_find_152 rfl rfl ?_
          refine q_lload G 0 dX0_find_153 rfl ?_
          refine q_aload_n G 5 0 dX0_find_155 rfl rfl ?_
          refine q_gt (v := .long (qL (sd))) G dX0_find_156 fl_X0_15 hO (by decide) rfl (by simp [mI, mL, mR, sL, sI, sR, wL, wD, stF, up2]) ?_
          refine q_lmul G dX0_find_159 ?_
          refine q_pL (z := (-1) * sd) G dX0_find_160 (pl_X0_15 _) nf_0_2 hO (by decide) (Nat.le_of_ble_eq_true rfl) (fs_0_2 _ _ _) ?_
          exact q_vret G dX0_find_163 hret (by omega) (by omega) (⟨rfl, _, _, _, by simp only [sL_wL, wL_wL, mL_wL, stF_u0, stF_u1, stF_u2]; rfl, eu_end hI0 (by first | rw [if_pos (by assumption)] | rw [if_neg (Int.not_lt.mpr (by assumption))])⟩)
      · have hst := eu_step hx hy hI c2
        refine q_lload G 4 dX0_find_39 rfl ?_
        refine q_lload G 3 dX0_find_41 rfl ?_
        refine q_callSN (As := [.long (qL (hi)), .long (qL (lo))]) (rest := []) G dX0_find_43 cw_X0_19 (c_X4_quotient l D cy _ _ _ hr.1 hr.2) rfl rfl (Nat.le_of_ble_eq_true rfl) rfl rfl ⟨Nat.le_of_ble_eq_true rfl, Nat.le_of_ble_eq_true rfl⟩ ⟨by decide, by decide⟩ (fun v9 M9 hq9 => ?_)
        obtain ⟨rfl, e9⟩ := hq9
        refine q_mem e9 ?_
        refine q_st (st2 := [.long (qL (quo hi lo))]) rfl ?_
        refine q_lstore (lv' := [(14, .long (qL (quo hi lo))), (13, .int (qI (n))), (11, .long (qL (sl))), (9, .long (qL (fl))), (7, .long (qL (lo))), (5, .long (qL (hi))), (0, .ref h)]) G dX0_find_46 (by decide) rfl ?_
        refine q_lload G 5 dX0_find_48 rfl ?_
        refine q_lload G 0 dX0_find_50 rfl ?_
        refine q_lload G 4 dX0_find_52 rfl ?_
        refine q_lmul G dX0_find_54 ?_
        refine q_lsub G dX0_find_55 ?_
        refine q_lstore (lv' := [(16, .long (qL (hi - ((quo hi lo) * lo)))), (14, .long (qL (quo hi lo))), (13, .int (qI (n))), (11, .long (qL (sl))), (9, .long (qL (fl))), (7, .long (qL (lo))), (5, .long (qL (hi))), (0, .ref h)]) G dX0_find_56 (by decide) rfl ?_
        refine q_lload G 5 dX0_find_58 rfl ?_
        refine q_lstore (lv' := [(5, .long (qL (lo))), (16, .long (qL (hi - ((quo hi lo) * lo)))), (14, .long (qL (quo hi lo))), (13, .int (qI (n))), (11, .long (qL (sl))), (9, .long (qL (fl))), (7, .long (qL (lo))), (0, .ref h)]) G dX0_find_60 (by decide) rfl ?_
        refine q_lload G 1 dX0_find_62 rfl ?_
        refine q_lstore (lv' := [(7, .long (qL (hi - ((quo hi lo) * lo)))), (5, .long (qL (lo))), (16, .long (qL (hi - ((quo hi lo) * lo)))), (14, .long (qL (quo hi lo))), (13, .int (qI (n))), (11, .long (qL (sl))), (9, .long (qL (fl))), (0, .ref h)]) G dX0_find_64 (by decide) rfl ?_
        refine q_aload_n G 7 0 dX0_find_66 rfl rfl ?_
        refine q_gt (v := .long (qL (f))) G dX0_find_67 fl_X0_9 hO (by decide) rfl (by simp [mI, mL, mR, sL, sI, sR, wL, wD, stF, up2]) ?_
        refine q_lload G 3 dX0_find_70 rfl ?_
        refine q_lload G 6 dX0_find_72 rfl ?_
        refine q_lmul G dX0_find_74 ?_
        refine q_lsub G dX0_find_75 ?_
        refine q_lstore (lv' := [(16, .long (qL (f - ((quo hi lo) * fl)))), (7, .long (qL (hi - ((quo hi lo) * lo)))), (5, .long (qL (lo))), (14, .long (qL (quo hi lo))), (13, .int (qI (n))), (11, .long (qL (sl))), (9, .long (qL (fl))), (0, .ref h)]) G dX0_find_76 (by decide) rfl ?_
        refine q_aload_n G 7 0 dX0_find_78 rfl rfl ?_
        refine q_lload G 6 dX0_find_79 rfl ?_
        refine q_pL (z := fl) G dX0_find_81 (pl_X0_9 _) nf_0_1 hO (by decide) (Nat.le_of_ble_eq_true rfl) (fs_0_1 _ _ _) ?_
        refine q_lload G 0 dX0_find_84 rfl ?_
        refine q_lstore (lv' := [(9, .long (qL (f - ((quo hi lo) * fl)))), (16, .long (qL (f - ((quo hi lo) * fl)))), (7, .long (qL (hi - ((quo hi lo) * lo)))), (5, .long (qL (lo))), (14, .long (qL (quo hi lo))), (13, .int (qI (n))), (11, .long (qL (sl))), (0, .ref h)]) G dX0_find_86 (by decide) rfl ?_
        refine q_aload_n G 7 0 dX0_find_88 rfl rfl ?_
        refine q_gt (v := .long (qL (sd))) G dX0_find_89 fl_X0_15 hO (by decide) rfl (by simp [mI, mL, mR, sL, sI, sR, wL, wD, stF, up2]) ?_
        refine q_lload G 4 dX0_find_92 rfl ?_
        refine q_lload G 6 dX0_find_94 rfl ?_
        refine q_lmul G dX0_find_96 ?_
        refine q_lsub G dX0_find_97 ?_
        refine q_lstore (lv' := [(16, .long (qL (sd - ((quo hi lo) * sl)))), (9, .long (qL (f - ((quo hi lo) * fl)))), (7, .long (qL (hi - ((quo hi lo) * lo)))), (5, .long (qL (lo))), (14, .long (qL (quo hi lo))), (13, .int (qI (n))), (11, .long (qL (sl))), (0, .ref h)]) G dX0_find_98 (by decide) rfl ?_
        refine q_aload_n G 7 0 dX0_find_100 rfl rfl ?_
        refine q_lload G 6 dX0_find_101 rfl ?_
        refine q_pL (z := sl) G dX0_find_103 (pl_X0_15 _) nf_0_2 hO (by decide) (Nat.le_of_ble_eq_true rfl) (fs_0_2 _ _ _) ?_
        refine q_lload G 0 dX0_find_106 rfl ?_
        refine q_lstore (lv' := [(11, .long (qL (sd - ((quo hi lo) * sl)))), (16, .long (qL (sd - ((quo hi lo) * sl)))), (9, .long (qL (f - ((quo hi lo) * fl)))), (7, .long (qL (hi - ((quo hi lo) * lo)))), (5, .long (qL (lo))), (14, .long (qL (quo hi lo))), (13, .int (qI (n))), (0, .ref h)]) G dX0_find_108 (by decide) rfl ?_
        refine q_iinc (lv' := [(13, .int (qI (n + 1))), (11, .long (qL (sd - ((quo hi lo) * sl)))), (16, .long (qL (sd - ((quo hi lo) * sl)))), (9, .long (qL (f - ((quo hi lo) * fl)))), (7, .long (qL (hi - ((quo hi lo) * lo)))), (5, .long (qL (lo))), (14, .long (qL (quo hi lo))), (0, .ref h)]) G 6 dX0_find_110 rfl (by decide) rfl ?_
        refine q_goto (tgt := 25) G dX0_find_113 (by decide) ?_
        refine q_lvs [0, 1, 3, 4, 5, 7] rfl ?_
        refine q_mem (M2 := wL M (stF (mL M) h (mL M h 0) fl sl)) (by simp only [sL_wL, wL_wL, mL_wL, stF_u0, stF_u1, stF_u2]) ?_
        exact ih _ _ _ _ _ _ _ (by have := hst.2.2; omega) hst.1
set_option maxRecDepth 100000 in
set_option maxHeartbeats 4000000 in
theorem c_X0_find (l : Launch) (D : va_G) (cy : Nat → ClassId) (M : qM) (h : Nat) (hO : qO M h 0) (x y : Int) (hx : x.natAbs < 281474976710656) (hy : y.natAbs < 281474976710656) : qCt l D cy yX0_find cX0_find 18 none { frames := 1, cells := 0, slots := 0, locals := 23 } 0 0 [.ref h, .long (qL (x)), .long (qL (y))] M (po_find M h x y) := by
  refine qCt_of (lv0 := [(0, .ref h), (1, .long (qL (x))), (3, .long (qL (y)))]) (by decide) rfl (Nat.le_of_ble_eq_true rfl) ?_
  intro p e s m args below meth c G hname hret
  refine q_lload_n G 1 1 dX0_find_0 rfl rfl ?_
  refine q_lstore (lv' := [(5, .long (qL (x))), (0, .ref h), (1, .long (qL (x))), (3, .long (qL (y)))]) G dX0_find_1 (by decide) rfl ?_
  refine q_lload_n G 3 3 dX0_find_3 rfl rfl ?_
  refine q_lstore (lv' := [(7, .long (qL (y))), (5, .long (qL (x))), (0, .ref h), (1, .long (qL (x))), (3, .long (qL (y)))]) G dX0_find_4 (by decide) rfl ?_
  refine q_lconst (z := 0) G dX0_find_6 (by decide +kernel) ?_
  refine q_lstore (lv' := [(9, .long (qL (0))), (7, .long (qL (y))), (5, .long (qL (x))), (0, .ref h), (1, .long (qL (x))), (3, .long (qL (y)))]) G dX0_find_7 (by decide) rfl ?_
  refine q_lconst (z := 1) G dX0_find_9 (by decide +kernel) ?_
  refine q_lstore (lv' := [(11, .long (qL (1))), (9, .long (qL (0))), (7, .long (qL (y))), (5, .long (qL (x))), (0, .ref h), (1, .long (qL (x))), (3, .long (qL (y)))]) G dX0_find_10 (by decide) rfl ?_
  refine q_aload_n G 4 0 dX0_find_12 rfl rfl ?_
  refine q_lconst (z := 1) G dX0_find_13 (by decide +kernel) ?_
  refine q_pL (z := 1) G dX0_find_14 (pl_X0_9 _) nf_0_1 hO (by decide) (Nat.le_of_ble_eq_true rfl) (fs_0_1 _ _ _) ?_
  refine q_aload_n G 4 0 dX0_find_17 rfl rfl ?_
  refine q_lconst (z := 0) G dX0_find_18 (by decide +kernel) ?_
  refine q_pL (z := 0) G dX0_find_19 (pl_X0_15 _) nf_0_2 hO (by decide) (Nat.le_of_ble_eq_true rfl) (fs_0_2 _ _ _) ?_
  refine q_iconst G dX0_find_22 ?_
  refine q_istore (lv' := [(13, .int (qI (0))), (11, .long (qL (1))), (9, .long (qL (0))), (7, .long (qL (y))), (5, .long (qL (x))), (0, .ref h), (1, .long (qL (x))), (3, .long (qL (y)))]) G dX0_find_23 (by decide) rfl ?_
  refine q_lvs [0, 1, 2, 3, 4, 5] rfl ?_
  refine q_mem (M2 := wL M (stF (mL M) h (mL M h 0) 1 0)) (by simp only [sL_wL, wL_wL, mL_wL, stF_12]) ?_
  exact l_find l D cy M h hO x y hx hy G hret _ _ _ _ _ _ _ _ (Nat.lt_succ_self _) (eu_init x y)
end
section
theorem stF_012 (L : Nat → Nat → Int) (a : Nat) (x y z : Int) : up2 (up2 (up2 L a 0 x) a 1 y) a 2 z = stF L a x y z := rfl
theorem stF_1' (L : Nat → Nat → Int) (a : Nat) (y : Int) : up2 L a 1 y = stF L a (L a 0) y (L a 2) := by
  have h1 : up2 L a 1 y = up2 (stF L a (L a 0) (L a 1) (L a 2)) a 1 y := by rw [stF_self]
  rw [h1, stF_u1]
set_option maxRecDepth 100000 in
set_option maxHeartbeats 4000000 in
theorem c_X2_complete (l : Launch) (D : va_G) (cy : Nat → ClassId) (M : qM) (f h : Nat) (hF : qO M f 2) (hO : qO M h 1) (a b : Int) (r1 : r64 (b * b + mI M f 0)) (r2 : r64 (4 * a)) (r3 : r32 (mI M f 0)) : qCt l D cy yX2_complete cX2_complete 6 none { frames := 1, cells := 0, slots := 0, locals := 23 } 0 0 [.ref f, .ref h, .long (qL (a)), .long (qL (b))] M (fun v M' => v = none ∧ M' = wL M (stF (mL M) h a b (quo (b * b + mI M f 0) (4 * a)))) := by
  refine qCt_of (lv0 := [(0, .ref f), (1, .ref h), (2, .long (qL (a))), (4, .long (qL (b)))]) (by decide) rfl (Nat.le_of_ble_eq_true rfl) ?_
  intro p e s m args below meth c G hname hret
  refine q_aload_n G 1 1 dX2_complete_0 rfl rfl ?_
  refine q_lload_n G 2 2 dX2_complete_1 rfl rfl ?_
  refine q_pL (z := a) G dX2_complete_2 (pl_X2_60 _) nf_1_0 hO (by decide) (Nat.le_of_ble_eq_true rfl) (fs_1_0 _ _ _) ?_
  refine q_aload_n G 1 1 dX2_complete_5 rfl rfl ?_
  refine q_lload G 3 dX2_complete_6 rfl ?_
  refine q_pL (z := b) G dX2_complete_8 (pl_X2_64 _) nf_1_1 hO (by decide) (Nat.le_of_ble_eq_true rfl) (fs_1_1 _ _ _) ?_
  refine q_aload_n G 1 1 dX2_complete_11 rfl rfl ?_
  refine q_lload G 3 dX2_complete_12 rfl ?_
  refine q_lload G 3 dX2_complete_14 rfl ?_
  refine q_lmul G dX2_complete_16 ?_
  refine q_aload_n G 0 0 dX2_complete_17 rfl rfl ?_
  refine q_gt (v := .int (qI (mI M f 0))) G dX2_complete_18 fl_X2_9 hF (by decide) rfl rfl ?_
  refine q_i2l G dX2_complete_21 (by first | assumption | omega) ?_
  refine q_ladd G dX2_complete_22 ?_
  refine q_ldc2 (z := 4) G dX2_complete_23 tw_280 (by decide +kernel) ?_
  refine q_lload_n G 2 2 dX2_complete_26 rfl rfl ?_
  refine q_lmul G dX2_complete_27 ?_
  refine q_callSN (As := [.long (qL ((b * b) + (mI M f 0))), .long (qL (4 * a))]) (rest := [.ref h]) G dX2_complete_28 cw_X2_69 (c_X4_quotient l D cy _ _ _ (by first | assumption | omega) (by first | assumption | omega)) rfl rfl (Nat.le_of_ble_eq_true rfl) rfl rfl ⟨Nat.le_of_ble_eq_true rfl, Nat.le_of_ble_eq_true rfl⟩ ⟨by decide, by decide⟩ (fun v9 M9 hq9 => ?_)
  obtain ⟨rfl, e9⟩ := hq9
  refine q_mem e9 ?_
  refine q_st (st2 := [.long (qL (quo ((b * b) + (mI M f 0)) (4 * a))), .ref h]) rfl ?_
  refine q_pL (z := quo ((b * b) + (mI M f 0)) (4 * a)) G dX2_complete_31 (pl_X2_73 _) nf_1_2 hO (by decide) (Nat.le_of_ble_eq_true rfl) (fs_1_2 _ _ _) ?_
  exact q_vret G dX2_complete_34 hret (by omega) (by omega) (⟨rfl, rfl⟩)
set_option maxRecDepth 100000 in
set_option maxHeartbeats 4000000 in
theorem c_X2_bringBNearZero (l : Launch) (D : va_G) (cy : Nat → ClassId) (M : qM) (f h : Nat) (hF : qO M f 2) (hO : qO M h 1) (q1 : r64 (mL M h 0 - mL M h 1)) (q2 : r64 (2 * mL M h 0)) (q3 : r64 ((mL M h 0 - rmd (mL M h 0 - mL M h 1) (2 * mL M h 0)) * (mL M h 0 - rmd (mL M h 0 - mL M h 1) (2 * mL M h 0)) + mI M f 0)) (q4 : r64 (4 * mL M h 0)) (q5 : r32 (mI M f 0)) : qCt l D cy yX2_bringBNearZero cX2_bringBNearZero 2 none { frames := 1, cells := 0, slots := 0, locals := 25 } 0 0 [.ref f, .ref h] M (fun v M' => v = none ∧ M' = wL M (stF (mL M) h (mL M h 0) (mL M h 0 - rmd (mL M h 0 - mL M h 1) (2 * mL M h 0)) (quo ((mL M h 0 - rmd (mL M h 0 - mL M h 1) (2 * mL M h 0)) * (mL M h 0 - rmd (mL M h 0 - mL M h 1) (2 * mL M h 0)) + mI M f 0) (4 * mL M h 0)))) := by
  refine qCt_of (lv0 := [(0, .ref f), (1, .ref h)]) (by decide) rfl (Nat.le_of_ble_eq_true rfl) ?_
  intro p e s m args below meth c G hname hret
  refine q_aload_n G 1 1 dX2_bringBNearZero_0 rfl rfl ?_
  refine q_aload_n G 1 1 dX2_bringBNearZero_1 rfl rfl ?_
  refine q_gt (v := .long (qL (mL M h 0))) G dX2_bringBNearZero_2 fl_X2_60 hO (by decide) rfl rfl ?_
  refine q_aload_n G 1 1 dX2_bringBNearZero_5 rfl rfl ?_
  refine q_gt (v := .long (qL (mL M h 0))) G dX2_bringBNearZero_6 fl_X2_60 hO (by decide) rfl rfl ?_
  refine q_aload_n G 1 1 dX2_bringBNearZero_9 rfl rfl ?_
  refine q_gt (v := .long (qL (mL M h 1))) G dX2_bringBNearZero_10 fl_X2_64 hO (by decide) rfl rfl ?_
  refine q_lsub G dX2_bringBNearZero_13 ?_
  refine q_ldc2 (z := 2) G dX2_bringBNearZero_14 tw_284 (by decide +kernel) ?_
  refine q_aload_n G 1 1 dX2_bringBNearZero_17 rfl rfl ?_
  refine q_gt (v := .long (qL (mL M h 0))) G dX2_bringBNearZero_18 fl_X2_60 hO (by decide) rfl rfl ?_
  refine q_lmul G dX2_bringBNearZero_21 ?_
  refine q_callSN (As := [.long (qL ((mL M h 0) - (mL M h 1))), .long (qL (2 * (mL M h 0)))]) (rest := [.long (qL (mL M h 0)), .ref h]) G dX2_bringBNearZero_22 cw_X2_76 (c_X4_remainder l D cy _ _ _ (by first | assumption | omega) (by first | assumption | omega)) rfl rfl (Nat.le_of_ble_eq_true rfl) rfl rfl ⟨Nat.le_of_ble_eq_true rfl, Nat.le_of_ble_eq_true rfl⟩ ⟨by decide, by decide⟩ (fun v9 M9 hq9 => ?_)
  obtain ⟨rfl, e9⟩ := hq9
  refine q_mem e9 ?_
  refine q_st (st2 := [.long (qL (rmd ((mL M h 0) - (mL M h 1)) (2 * (mL M h 0)))), .long (qL (mL M h 0)), .ref h]) rfl ?_
  refine q_lsub G dX2_bringBNearZero_25 ?_
  refine q_pL (z := (mL M h 0) - (rmd ((mL M h 0) - (mL M h 1)) (2 * (mL M h 0)))) G dX2_bringBNearZero_26 (pl_X2_64 _) nf_1_1 hO (by decide) (Nat.le_of_ble_eq_true rfl) (fs_1_1 _ _ _) ?_
  refine q_aload_n G 1 1 dX2_bringBNearZero_29 rfl rfl ?_
  refine q_aload_n G 1 1 dX2_bringBNearZero_30 rfl rfl ?_
  refine q_gt (v := .long (qL ((mL M h 0) - (rmd ((mL M h 0) - (mL M h 1)) (2 * (mL M h 0)))))) G dX2_bringBNearZero_31 fl_X2_64 hO (by decide) rfl (by simp [mI, mL, mR, sL, sI, sR, wL, wD, stF, up2]) ?_
  refine q_aload_n G 1 1 dX2_bringBNearZero_34 rfl rfl ?_
  refine q_gt (v := .long (qL ((mL M h 0) - (rmd ((mL M h 0) - (mL M h 1)) (2 * (mL M h 0)))))) G dX2_bringBNearZero_35 fl_X2_64 hO (by decide) rfl (by simp [mI, mL, mR, sL, sI, sR, wL, wD, stF, up2]) ?_
  refine q_lmul G dX2_bringBNearZero_38 ?_
  refine q_aload_n G 0 0 dX2_bringBNearZero_39 rfl rfl ?_
  refine q_gt (v := .int (qI (mI M f 0))) G dX2_bringBNearZero_40 fl_X2_9 hF (by decide) rfl rfl ?_
  refine q_i2l G dX2_bringBNearZero_43 (by first | assumption | omega) ?_
  refine q_ladd G dX2_bringBNearZero_44 ?_
  refine q_ldc2 (z := 4) G dX2_bringBNearZero_45 tw_280 (by decide +kernel) ?_
  refine q_aload_n G 1 1 dX2_bringBNearZero_48 rfl rfl ?_
  refine q_gt (v := .long (qL (mL M h 0))) G dX2_bringBNearZero_49 fl_X2_60 hO (by decide) rfl (by simp [mI, mL, mR, sL, sI, sR, wL, wD, stF, up2]) ?_
  refine q_lmul G dX2_bringBNearZero_52 ?_
  refine q_callSN (As := [.long (qL ((((mL M h 0) - (rmd ((mL M h 0) - (mL M h 1)) (2 * (mL M h 0)))) * ((mL M h 0) - (rmd ((mL M h 0) - (mL M h 1)) (2 * (mL M h 0))))) + (mI M f 0))), .long (qL (4 * (mL M h 0)))]) (rest := [.ref h]) G dX2_bringBNearZero_53 cw_X2_69 (c_X4_quotient l D cy _ _ _ (by first | assumption | omega) (by first | assumption | omega)) rfl rfl (Nat.le_of_ble_eq_true rfl) rfl rfl ⟨Nat.le_of_ble_eq_true rfl, Nat.le_of_ble_eq_true rfl⟩ ⟨by decide, by decide⟩ (fun v9 M9 hq9 => ?_)
  obtain ⟨rfl, e9⟩ := hq9
  refine q_mem e9 ?_
  refine q_st (st2 := [.long (qL (quo ((((mL M h 0) - (rmd ((mL M h 0) - (mL M h 1)) (2 * (mL M h 0)))) * ((mL M h 0) - (rmd ((mL M h 0) - (mL M h 1)) (2 * (mL M h 0))))) + (mI M f 0)) (4 * (mL M h 0)))), .ref h]) rfl ?_
  refine q_pL (z := quo ((((mL M h 0) - (rmd ((mL M h 0) - (mL M h 1)) (2 * (mL M h 0)))) * ((mL M h 0) - (rmd ((mL M h 0) - (mL M h 1)) (2 * (mL M h 0))))) + (mI M f 0)) (4 * (mL M h 0))) G dX2_bringBNearZero_56 (pl_X2_73 _) nf_1_2 hO (by decide) (Nat.le_of_ble_eq_true rfl) (fs_1_2 _ _ _) ?_
  exact q_vret G dX2_bringBNearZero_59 hret (by omega) (by omega) (⟨rfl, by simp only [sL_wL, wL_wL, mL_wL, stF_1', stF_u2]⟩)
def po_settle (M : qM) (h : Nat) : Option Value → qM → Prop := fun v M' => v = none ∧ ∃ a b c, M' = wL M (stF (mL M) h a b c) ∧ isRd a b c ∧ 0 < a ∧ fEq (mL M h 0) (mL M h 1) (mL M h 2) a b c
theorem st_rng {x nb d : Int} (hx : 0 < x) (h : x ≤ 2147483648) (h1 : -x < nb) (h2 : nb ≤ x) (hd0 : 0 < d) (hd9 : d ≤ 1000000000) : r64 (nb * nb + d) := by
  have k1 := Int.mul_nonneg (show 0 ≤ x - nb by omega) (show 0 ≤ x + nb by omega)
  have k2 := Int.mul_le_mul h h (by omega) (by omega)
  have k3 : 0 ≤ nb * nb := by rcases Int.le_total 0 nb with h | h; exact Int.mul_nonneg h h; exact Int.mul_nonneg_of_nonpos_of_nonpos h h
  have k4 : (x - nb) * (x + nb) = x * x - nb * nb := by grind
  omega
set_option maxRecDepth 100000 in
set_option maxHeartbeats 4000000 in
theorem l_settle {p : Program} {e : Env} {s : State} {m : MethodId} {args : Array Value} {below : List Frame} {meth : Method} {c : Code} (l : Launch) (D : va_G) (cy : Nat → ClassId) (M : qM) (f h : Nat) (hF : qO M f 2) (hO : qO M h 1) (hd0 : 0 < mI M f 0) (hd9 : mI M f 0 ≤ 1000000000) (G : qG p s m args meth c cX2_settle 3 yX2_settle.cls D cy (qA (mP M) s.heap.size)) (hret : meth.sig.returnType = none) : ∀ (w9 : Nat) (n fa fb fc : Int), (100000 - n).toNat < w9 → stI (mI M f 0) (mL M h 0) (mL M h 1) (mL M h 2) n fa fb fc → qK p l e { frames := 2, cells := 0, slots := 0, locals := 46 } s m args below meth c (MQ below (qQ D cy (mP M) (po_settle M h)) args s 0 0 (qA (mP M) s.heap.size)) 3 D cy (qA (mP M) s.heap.size) 0 0 2 [(2, .int (qI (n))), (1, .ref h), (0, .ref f)] [] (wL M (stF (mL M) h fa fb fc)) := by
  intro w9
  induction w9 with
  | zero => intro n fa fb fc h9; exact absurd h9 (Nat.not_lt_zero _)
  | succ w9 ih =>
    intro n fa fb fc hm hI
    obtain ⟨p1, p2, p3, p4, p5, p6, p7, p8, p9⟩ := id hI
    refine q_iload_n G 0 2 dX2_settle_2 rfl rfl ?_
    refine q_ldc (z := 100000) G dX2_settle_3 tw_289 (by decide +kernel) ?_
    refine q_icmp_ge (tgt := 42) G dX2_settle_5 (by decide) (by have := hI.2.2.2.2.2.2.2.1; omega) (by have := hI.2.2.2.2.2.2.2.1; omega) (fun c1 => ?_) (fun c1 => ?_)
    · have hrd : isRd fa fb fc := by first | (rcases hI.2.2.2.2.2.2.2.2 with h | h | h <;> first | exact h | (exfalso; omega)) | exact Decidable.byContradiction (fun h9 => c2 (by rw [if_neg h9]))
      exact q_vret G dX2_settle_42 hret (by omega) (by omega) (⟨rfl, fa, fb, fc, rfl, hrd, hI.1, hI.2.2.2.1⟩)
    · refine q_aload_n G 1 1 dX2_settle_8 rfl rfl ?_
      refine q_callV (As := []) (rest := []) G dX2_settle_9 cw_X2_91 (c_X1_isReduced l D cy _ _ hO (by show r63 (stF _ _ _ _ _ _ _); rw [stF_0]; omega) (by show r63 (stF _ _ _ _ _ _ _); rw [stF_1]; omega) (by show r63 (stF _ _ _ _ _ _ _); rw [stF_2]; omega)) hO.1 hO.2 (by decide) rfl rfl rfl (Nat.le_of_ble_eq_true rfl) rfl rfl ⟨Nat.le_of_ble_eq_true rfl, Nat.le_of_ble_eq_true rfl⟩ ⟨by decide, by decide⟩ (fun v9 M9 hq9 => ?_)
      obtain ⟨rfl, e9⟩ := hq9
      refine q_mem e9 ?_
      refine q_st (st2 := [.int (qI (if isRd (mL (wL M (stF (mL M) h fa fb fc)) h 0) (mL (wL M (stF (mL M) h fa fb fc)) h 1) (mL (wL M (stF (mL M) h fa fb fc)) h 2) then 1 else 0))]) rfl ?_
      simp only [mL_wL, stF_0, stF_1, stF_2]
      refine q_if_ne (tgt := 42) G dX2_settle_12 (by decide) (by split <;> omega) (fun c2 => ?_) (fun c2 => ?_)
      · have hrd : isRd fa fb fc := by first | (rcases hI.2.2.2.2.2.2.2.2 with h | h | h <;> first | exact h | (exfalso; omega)) | exact Decidable.byContradiction (fun h9 => c2 (by rw [if_neg h9]))
        exact q_vret G dX2_settle_42 hret (by omega) (by omega) (⟨rfl, fa, fb, fc, rfl, hrd, hI.1, hI.2.2.2.1⟩)
      · have hnr : ¬ isRd fa fb fc := fun h9 => absurd c2 (by rw [if_pos h9]; decide)
        refine q_aload_n G 1 1 dX2_settle_15 rfl rfl ?_
        refine q_gt (v := .long (qL (fa))) G dX2_settle_16 fl_X2_60 hO (by decide) rfl (by simp [mI, mL, mR, sL, sI, sR, wL, wD, stF, up2]) ?_
        refine q_aload_n G 1 1 dX2_settle_19 rfl rfl ?_
        refine q_gt (v := .long (qL (fc))) G dX2_settle_20 fl_X2_73 hO (by decide) rfl (by simp [mI, mL, mR, sL, sI, sR, wL, wD, stF, up2]) ?_
        refine q_lcmp_lt (tgt := 31) G dX2_settle_23 dX2_settle_24 (by decide) (by omega) (by omega) (fun c3 => ?_) (fun c3 => ?_)
        · have hst := st_turn (x := fa) (y := fb) (z := fc) hd0 hd9 hI hnr (Or.inr ⟨by omega, rfl, rfl, rfl⟩)
          have hrg := st_rng (nb := fa - rmd (fa - fb) (2 * fa)) (x := fa) (by omega) (by omega) (st_near (z := fc) (d := mI M f 0) (by omega) hI.2.2.1).2.1 (st_near (z := fc) (d := mI M f 0) (by omega) hI.2.2.1).2.2 hd0 hd9
          have hw : (100000 - (n + 1)).toNat < w9 ∧ True := ⟨by have := hI.2.2.2.2.2.2.2.1; omega, trivial⟩
          refine q_aload_n G 2 0 dX2_settle_31 rfl rfl ?_
          refine q_aload_n G 1 1 dX2_settle_32 rfl rfl ?_
          refine q_callV (As := [.ref h]) (rest := []) G dX2_settle_33 cw_X2_98 (c_X2_bringBNearZero l D cy (wL M (stF (mL M) h (fa) (fb) (fc))) f h hF hO (by simp only [mL_wL, stF_0, stF_1]; omega) (by simp only [mL_wL, stF_0]; omega) (by simp only [mL_wL, stF_0, stF_1]; exact hrg) (by simp only [mL_wL, stF_0]; omega) (by show r32 (mI M f 0); omega)) hF.1 hF.2 (by decide) rfl rfl rfl (Nat.le_of_ble_eq_true rfl) rfl rfl ⟨Nat.le_of_ble_eq_true rfl, Nat.le_of_ble_eq_true rfl⟩ ⟨by decide, by decide⟩ (fun v9 M9 hq9 => ?_)
          obtain ⟨rfl, e9⟩ := hq9
          refine q_mem e9 ?_
          refine q_st (st2 := []) rfl ?_
          refine q_mem (M2 := wL M (stF (mL M) h (fa) (fa - rmd (fa - fb) (2 * fa)) (quo ((fa - rmd (fa - fb) (2 * fa)) * (fa - rmd (fa - fb) (2 * fa)) + mI M f 0) (4 * fa)))) (by simp only [mL_wL, stF_0, stF_1, stF_2, wL_wL, stF_stF]; rfl) ?_
          refine q_iinc (lv' := [(2, .int (qI (n + 1))), (1, .ref h), (0, .ref f)]) G 0 dX2_settle_36 rfl (by decide) rfl ?_
          refine q_goto (tgt := 2) G dX2_settle_39 (by decide) ?_
          refine q_lvs [0, 1, 2] rfl ?_
          exact ih _ _ _ _ hw.1 hst.1
        · have hst := st_turn (x := fc) (y := -fb) (z := fa) hd0 hd9 hI hnr (Or.inl ⟨by omega, rfl, rfl, rfl⟩)
          have hrg := st_rng (nb := fc - rmd (fc - -fb) (2 * fc)) (x := fc) (by omega) (by omega) (st_near (z := fa) (d := mI M f 0) (by omega) (by have := hI.2.2.1; grind)).2.1 (st_near (z := fa) (d := mI M f 0) (by omega) (by have := hI.2.2.1; grind)).2.2 hd0 hd9
          have hw : (100000 - (n + 1)).toNat < w9 ∧ True := ⟨by have := hI.2.2.2.2.2.2.2.1; omega, trivial⟩
          refine q_aload_n G 1 1 dX2_settle_27 rfl rfl ?_
          refine q_callV (As := []) (rest := []) G dX2_settle_28 cw_X2_95 (c_X1_swapEnds l D cy _ _ hO) hO.1 hO.2 (by decide) rfl rfl rfl (Nat.le_of_ble_eq_true rfl) rfl rfl ⟨Nat.le_of_ble_eq_true rfl, Nat.le_of_ble_eq_true rfl⟩ ⟨by decide, by decide⟩ (fun v9 M9 hq9 => ?_)
          obtain ⟨rfl, e9⟩ := hq9
          refine q_mem e9 ?_
          refine q_st (st2 := []) rfl ?_
          refine q_mem (M2 := wL M (stF (mL M) h fc (-fb) fa)) (by simp only [mL_wL, stF_0, stF_1, stF_2, wL_wL, stF_stF]) ?_
          refine q_aload_n G 2 0 dX2_settle_31 rfl rfl ?_
          refine q_aload_n G 1 1 dX2_settle_32 rfl rfl ?_
          refine q_callV (As := [.ref h]) (rest := []) G dX2_settle_33 cw_X2_98 (c_X2_bringBNearZero l D cy (wL M (stF (mL M) h (fc) (-fb) (fa))) f h hF hO (by simp only [mL_wL, stF_0, stF_1]; omega) (by simp only [mL_wL, stF_0]; omega) (by simp only [mL_wL, stF_0, stF_1]; exact hrg) (by simp only [mL_wL, stF_0]; omega) (by show r32 (mI M f 0); omega)) hF.1 hF.2 (by decide) rfl rfl rfl (Nat.le_of_ble_eq_true rfl) rfl rfl ⟨Nat.le_of_ble_eq_true rfl, Nat.le_of_ble_eq_true rfl⟩ ⟨by decide, by decide⟩ (fun v9 M9 hq9 => ?_)
          obtain ⟨rfl, e9⟩ := hq9
          refine q_mem e9 ?_
          refine q_st (st2 := []) rfl ?_
          refine q_mem (M2 := wL M (stF (mL M) h (fc) (fc - rmd (fc - -fb) (2 * fc)) (quo ((fc - rmd (fc - -fb) (2 * fc)) * (fc - rmd (fc - -fb) (2 * fc)) + mI M f 0) (4 * fc)))) (by simp only [mL_wL, stF_0, stF_1, stF_2, wL_wL, stF_stF]; rfl) ?_
          refine q_iinc (lv' := [(2, .int (qI (n + 1))), (1, .ref h), (0, .ref f)]) G 0 dX2_settle_36 rfl (by decide) rfl ?_
          refine q_goto (tgt := 2) G dX2_settle_39 (by decide) ?_
          refine q_lvs [0, 1, 2] rfl ?_
          exact ih _ _ _ _ hw.1 hst.1
end
section
/-- a form that can be settled -/
def sOk (d a b c : Int) : Prop := 0 < a ∧ b * b - 4 * a * c = -d ∧ a ≤ 2147483648 ∧ (-2305843009213693952 ≤ b ∧ b ≤ 2305843009213693952) ∧ c ≤ 2305843009213693952
theorem sOk_stI {d a b c : Int} (hd0 : 0 < d) (h : sOk d a b c) : stI d a b c 0 a b c := ⟨h.1, st_pos h.1 h.2.1 hd0, h.2.1, fEq_rfl _ _ _, h.2.2.1, h.2.2.2.1, h.2.2.2.2, by omega, Or.inl rfl⟩
theorem sOk_rd {d a b c : Int} (hd9 : d ≤ 1000000000) (ha : 0 < a) (hr : isRd a b c) (hd : b * b - 4 * a * c = -d) : sOk d a b c := by
  have := rd_rng ha hr hd hd9
  exact ⟨ha, hd, by omega, by omega, by omega⟩
set_option maxRecDepth 100000 in
set_option maxHeartbeats 4000000 in
theorem c_X2_settle (l : Launch) (D : va_G) (cy : Nat → ClassId) (M : qM) (f h : Nat) (hF : qO M f 2) (hO : qO M h 1) (hd0 : 0 < mI M f 0) (hd9 : mI M f 0 ≤ 1000000000) (hk : sOk (mI M f 0) (mL M h 0) (mL M h 1) (mL M h 2)) : qCt l D cy yX2_settle cX2_settle 3 none { frames := 2, cells := 0, slots := 0, locals := 46 } 0 0 [.ref f, .ref h] M (po_settle M h) := by
  refine qCt_of (lv0 := [(0, .ref f), (1, .ref h)]) (by decide) rfl (Nat.le_of_ble_eq_true rfl) ?_
  intro p e s m args below meth c G hname hret
  refine q_iconst G dX2_settle_0 ?_
  refine q_istore_n (lv' := [(2, .int (qI (0))), (0, .ref f), (1, .ref h)]) G 2 dX2_settle_1 rfl (by decide) rfl ?_
  refine q_lvs [0, 2, 1] rfl ?_
  refine q_mem (M2 := wL M (stF (mL M) h (mL M h 0) (mL M h 1) (mL M h 2))) (by rw [stF_self]; rfl) ?_
  exact l_settle l D cy M f h hF hO hd0 hd9 G hret _ _ _ _ _ (Nat.lt_succ_self _) (sOk_stI hd0 hk)
/-- the forms' object: its parts, apart; the discriminant -/
def qFO (M : qM) (fo un ge eu lf rg ba so on ot : Nat) : Prop := qO M fo 2 ∧ (mR M fo 1 = some un ∧ mR M fo 2 = some ge ∧ mR M fo 3 = some eu ∧ mR M fo 4 = some lf ∧ mR M fo 5 = some rg ∧ mR M fo 6 = some ba ∧ mR M fo 7 = some so ∧ mR M fo 8 = some on ∧ mR M fo 9 = some ot) ∧
  (qO M un 1 ∧ qO M ge 1 ∧ qO M eu 0 ∧ qO M lf 1 ∧ qO M rg 1 ∧ qO M ba 1 ∧ qO M so 1 ∧ qO M on 1 ∧ qO M ot 1) ∧ [un, ge, eu, lf, rg, ba, so, on, ot].Nodup ∧ r32 (mI M fo 0)
def dOk (d : Int) : Prop := 7 ≤ d ∧ d ≤ 1000000000 ∧ d % 8 = 7
def po_product (M : qM) (lf rg eu f g res : Nat) : Option Value → qM → Prop := fun v M' => v = none ∧ ∃ L x y z, M' = wL M L ∧ (∀ b k, b ≠ lf → b ≠ rg → b ≠ eu → b ≠ res → L b k = mL M b k) ∧ L res 0 = x ∧ L res 1 = y ∧ L res 2 = z ∧ isMul (mL M f 0) (mL M f 1) (mL M f 2) (mL M g 0) (mL M g 1) (mL M g 2) x y z
/-- what the class's product comes to -/
theorem prod_ok {d a1 b1 c1 a2 b2 c2 g1 u v w e1 e2 : Int} (hd : dOk d) (p1 : 0 < a1) (r1 : isRd a1 b1 c1) (k1 : b1 * b1 - 4 * a1 * c1 = -d) (p2 : 0 < a2) (r2 : isRd a2 b2 c2) (k2 : b2 * b2 - 4 * a2 * c2 = -d)
    (h1 : isEu a1 a2 g1 u v) (h2 : isEu g1 ((b1 + b2).tdiv 2) w e1 e2) :
    0 < w ∧ (0 < quo a1 w ∧ quo a1 w ≤ 18257) ∧ (0 < quo a2 w ∧ quo a2 w ≤ 18257) ∧ r64 (e1 * v * ((b1 + b2).tdiv 2 - b2) - e2 * c2) ∧ (w ≤ 18257) ∧
    (let A := quo a1 w * quo a2 w; let B := b2 + 2 * quo a2 w * rmd (e1 * v * ((b1 + b2).tdiv 2 - b2) - e2 * c2) (quo a1 w);
      r64 (B * B + d) ∧ r64 (4 * A) ∧ fCu a1 b1 c1 a2 b2 c2 A B (quo (B * B + d) (4 * A)) ∧ sOk d A B (quo (B * B + d) (4 * A))) := by
  obtain ⟨x1, x2, x3, x4, x5⟩ := rd_rng p1 r1 k1 hd.2.1
  obtain ⟨y1, y2, y3, y4, y5⟩ := rd_rng p2 r2 k2 hd.2.1
  have o1 := odd_b k1 (by have := hd.2.2; omega)
  have o2 := odd_b k2 (by have := hd.2.2; omega)
  have hsum : (b1 + b2).tdiv 2 * 2 = b1 + b2 := by
    obtain ⟨t, ht⟩ : ∃ t, b1 + b2 = 2 * t := ⟨(b1 + b2) / 2, by omega⟩
    rw [ht, Int.mul_tdiv_cancel_left t (by decide)]; omega
  generalize (b1 + b2).tdiv 2 = s at h2 hsum ⊢
  obtain ⟨i1, i2, i3, i4, i5, i6⟩ := h1
  obtain ⟨j1, j2, j3, j4, j5, j6⟩ := h2
  have hg0 : g1 ≠ 0 := by
    rintro rfl
    have := Int.zero_dvd.mp i3
    omega
  have hgle := Int.le_of_dvd p1 i3
  have hw0 : w ≠ 0 := by
    rintro rfl
    have := Int.zero_dvd.mp j3
    omega
  have hwle := Int.le_of_dvd (show 0 < g1 by omega) j3
  obtain ⟨q1, e3⟩ := Int.dvd_trans j3 i3
  obtain ⟨q2, e4⟩ := Int.dvd_trans j3 i4
  have hq1 : 0 < q1 := by
    refine Int.not_le.mp (fun h => ?_)
    have := Int.mul_nonpos_of_nonneg_of_nonpos (show 0 ≤ w by omega) h
    omega
  have hq2 : 0 < q2 := by
    refine Int.not_le.mp (fun h => ?_)
    have := Int.mul_nonpos_of_nonneg_of_nonpos (show 0 ≤ w by omega) h
    omega
  have hq1b : q1 ≤ 18257 := by
    have := Int.mul_nonneg (show 0 ≤ w - 1 by omega) (show 0 ≤ q1 by omega)
    have k : (w - 1) * q1 = w * q1 - q1 := by grind
    omega
  have hq2b : q2 ≤ 18257 := by
    have := Int.mul_nonneg (show 0 ≤ w - 1 by omega) (show 0 ≤ q2 by omega)
    have k : (w - 1) * q2 = w * q2 - q2 := by grind
    omega
  rw [quo_dvd hw0 e3, quo_dvd hw0 e4]
  have he1 : -18257 ≤ e1 ∧ e1 ≤ 18257 := by omega
  have he2 : -18257 ≤ e2 ∧ e2 ≤ 18257 := by omega
  have hv : -18257 ≤ v ∧ v ≤ 18257 := by omega
  clear i5 i6 j5 j6
  have t1 := ab_le he1.1 he1.2 hv.1 hv.2
  have t2 := ab_le (n := 18257 * 18257) (m := 36514) t1.1 t1.2 (show -36514 ≤ s - b2 by omega) (show s - b2 ≤ 36514 by omega)
  have t3 := ab_le (n := 18257) (m := 333333333) he2.1 he2.2 (show -333333333 ≤ c2 by omega) y5
  have hT : r64 (e1 * v * (s - b2) - e2 * c2) := by omega
  refine ⟨by omega, ⟨hq1, hq1b⟩, ⟨hq2, hq2b⟩, hT, by omega, ?_⟩
  obtain ⟨C, hC⟩ := gauss (r := (e1 * v * (s - b2) - e2 * c2) % q1) p1 k1 k2 (by omega) i1 j1 hw0 e3 e4 j4 hq1 rfl
  rw [rmd_mod hq1]
  have m1 := Int.emod_nonneg (e1 * v * (s - b2) - e2 * c2) (show q1 ≠ 0 by omega)
  have m2 := Int.emod_lt_of_pos (e1 * v * (s - b2) - e2 * c2) hq1
  generalize (e1 * v * (s - b2) - e2 * c2) % q1 = r at hC m1 m2 ⊢
  have n1 := ab_le (x := q1) (y := q2) (n := 18257) (m := 18257) (by omega) hq1b (by omega) hq2b
  have n2 := ab_le (x := 2 * q2) (y := r) (n := 36514) (m := 18257) (by omega) (by omega) (by omega) (by omega)
  have n3 := Int.mul_pos hq1 hq2
  have hdis := fCu_disc hC
  show r64 ((b2 + 2 * q2 * r) * (b2 + 2 * q2 * r) + d) ∧ r64 (4 * (q1 * q2)) ∧ _ ∧ _
  have hB : -666654355 ≤ b2 + 2 * q2 * r ∧ b2 + 2 * q2 * r ≤ 666654355 := by omega
  generalize b2 + 2 * q2 * r = B at hC hdis hB ⊢
  have hBB := sq_le hB.1 hB.2
  have hB0 := sq_nn B
  generalize q1 * q2 = A at hC hdis n1 n3 ⊢
  have hd1 := hd.1
  have hd2 := hd.2.1
  have hk : B * B + d = 4 * A * C := by omega
  have hC0 : 0 < C := st_pos n3 (show B * B - 4 * A * C = -d by omega) (by omega)
  have hCle : C ≤ A * C := by
    have := Int.mul_nonneg (show 0 ≤ A - 1 by omega) (show 0 ≤ C by omega)
    have k : (A - 1) * C = A * C - C := by grind
    omega
  have hk2 : 4 * A * C = 4 * (A * C) := by grind
  rw [quo_dvd (show 4 * A ≠ 0 by omega) hk]
  exact ⟨by omega, by omega, hC, n3, by omega, by omega, by omega, by omega⟩
end
section
theorem eu_g {p q g u v : Int} (h : isEu p q g u v) (hp : 0 < p) : 0 < g ∧ g ≤ p := by
  obtain ⟨h1, h2, h3, h4, h5, h6⟩ := h
  have := Int.le_of_dvd hp h3
  refine ⟨?_, this⟩
  rcases Int.lt_or_eq_of_le h2 with h | h
  · exact h
  · subst h
    have := Int.zero_dvd.mp h3
    omega
theorem half_le (x : Int) : (x.tdiv 2).natAbs ≤ x.natAbs := by
  rw [Int.natAbs_tdiv]; exact Nat.div_le_self _ _
theorem half_r {x : Int} (h : -40000 ≤ x) (h2 : x ≤ 40000) : -40000 ≤ x.tdiv 2 ∧ x.tdiv 2 ≤ 40000 := by
  have := half_le x; omega
set_option maxRecDepth 100000 in
set_option maxHeartbeats 4000000 in
theorem c_X2_product (l : Launch) (D : va_G) (cy : Nat → ClassId) (M : qM) (fo un ge eu lf rg ba so on ot : Nat) (hFO : qFO M fo un ge eu lf rg ba so on ot) (hd : dOk (mI M fo 0)) (f g res : Nat) (hf : qO M f 1) (hg : qO M g 1) (hr : qO M res 1) (ngl : g ≠ lf) (gf : sOk (mI M fo 0) (mL M f 0) (mL M f 1) (mL M f 2)) (gg : sOk (mI M fo 0) (mL M g 0) (mL M g 1) (mL M g 2)) : qCt l D cy yX2_product cX2_product 16 none { frames := 3, cells := 0, slots := 0, locals := 68 } 0 0 [.ref fo, .ref f, .ref g, .ref res] M (po_product M lf rg eu f g res) := by
  refine qCt_of (lv0 := [(0, .ref fo), (1, .ref f), (2, .ref g), (3, .ref res)]) (by decide) rfl (Nat.le_of_ble_eq_true rfl) ?_
  intro p e s m args below meth c G hname hret
  obtain ⟨hF, ⟨r1, r2, r3, r4, r5, r6, r7, r8, r9⟩, ⟨o1, o2, o3, o4, o5, o6, o7, o8, o9⟩, hnd, hdi⟩ := id hFO
  have n1 : lf ≠ rg := (fun h9 => by subst h9; simp at hnd)
  have n2 : eu ≠ lf := (fun h9 => by subst h9; simp at hnd)
  have n3 : eu ≠ rg := (fun h9 => by subst h9; simp at hnd)
  refine q_aload_n G 0 0 dX2_product_0 rfl rfl ?_
  refine q_gt (v := .ref lf) G dX2_product_1 fl_X2_32 hF (by decide) rfl (congrArg va_rf r4) ?_
  refine q_aload_n G 1 1 dX2_product_4 rfl rfl ?_
  refine q_callV (As := [.ref f]) (rest := []) G dX2_product_5 cw_X2_101 (c_X1_become l D cy _ _ _ o4 hf) o4.1 o4.2 (by decide) rfl rfl rfl (Nat.le_of_ble_eq_true rfl) rfl rfl ⟨Nat.le_of_ble_eq_true rfl, Nat.le_of_ble_eq_true rfl⟩ ⟨by decide, by decide⟩ (fun v9 M9 hq9 => ?_)
  obtain ⟨rfl, e9⟩ := hq9
  refine q_mem e9 ?_
  refine q_st (st2 := []) rfl ?_
  refine q_aload_n G 0 0 dX2_product_8 rfl rfl ?_
  refine q_aload_n G 0 0 dX2_product_9 rfl rfl ?_
  refine q_gt (v := .ref lf) G dX2_product_10 fl_X2_32 hF (by decide) rfl (congrArg va_rf r4) ?_
  refine q_callV (As := [.ref lf]) (rest := []) G dX2_product_13 cw_X2_56 (c_X2_settle l D cy _ _ _ hF o4 (by show 0 < mI M fo 0; have := hd.1; omega) hd.2.1 (by simp only [mL_wL, stF_0, stF_1, stF_2]; exact gf)) hF.1 hF.2 (by decide) rfl rfl rfl (Nat.le_of_ble_eq_true rfl) rfl rfl ⟨Nat.le_of_ble_eq_true rfl, Nat.le_of_ble_eq_true rfl⟩ ⟨by decide, by decide⟩ (fun v9 M9 hq9 => ?_)
  obtain ⟨rfl, a1, b1, c1, e9, rd1, ps1, eq1⟩ := hq9
  refine q_st (st2 := []) rfl ?_
  refine q_mem (M2 := wL M (stF (mL M) lf a1 b1 c1)) (by rw [e9]; simp only [wL_wL, mL_wL, stF_stF]) ?_
  simp only [mL_wL, stF_0, stF_1, stF_2] at eq1
  have dk1 := (fEq_disc eq1).trans gf.2.1
  have x1 := rd_rng ps1 rd1 dk1 hd.2.1
  refine q_aload_n G 0 0 dX2_product_16 rfl rfl ?_
  refine q_gt (v := .ref rg) G dX2_product_17 fl_X2_35 hF (by decide) rfl (congrArg va_rf r5) ?_
  refine q_aload_n G 2 2 dX2_product_20 rfl rfl ?_
  refine q_callV (As := [.ref g]) (rest := []) G dX2_product_21 cw_X2_101 (c_X1_become l D cy _ _ _ o5 hg) o5.1 o5.2 (by decide) rfl rfl rfl (Nat.le_of_ble_eq_true rfl) rfl rfl ⟨Nat.le_of_ble_eq_true rfl, Nat.le_of_ble_eq_true rfl⟩ ⟨by decide, by decide⟩ (fun v9 M9 hq9 => ?_)
  obtain ⟨rfl, e9⟩ := hq9
  refine q_mem e9 ?_
  refine q_st (st2 := []) rfl ?_
  refine q_mem (M2 := wL M (stF (stF (mL M) lf a1 b1 c1) rg (mL M g 0) (mL M g 1) (mL M g 2))) (by simp only [wL_wL, mL_wL, stF_n _ _ _ _ ngl]) ?_
  refine q_aload_n G 0 0 dX2_product_24 rfl rfl ?_
  refine q_aload_n G 0 0 dX2_product_25 rfl rfl ?_
  refine q_gt (v := .ref rg) G dX2_product_26 fl_X2_35 hF (by decide) rfl (congrArg va_rf r5) ?_
  refine q_callV (As := [.ref rg]) (rest := []) G dX2_product_29 cw_X2_56 (c_X2_settle l D cy _ _ _ hF o5 (by show 0 < mI M fo 0; have := hd.1; omega) hd.2.1 (by simp only [mL_wL, stF_0, stF_1, stF_2]; exact gg)) hF.1 hF.2 (by decide) rfl rfl rfl (Nat.le_of_ble_eq_true rfl) rfl rfl ⟨Nat.le_of_ble_eq_true rfl, Nat.le_of_ble_eq_true rfl⟩ ⟨by decide, by decide⟩ (fun v9 M9 hq9 => ?_)
  obtain ⟨rfl, a2, b2, c2, e9, rd2, ps2, eq2⟩ := hq9
  refine q_st (st2 := []) rfl ?_
  refine q_mem (M2 := wL M (stF (stF (mL M) lf a1 b1 c1) rg a2 b2 c2)) (by rw [e9]; simp only [wL_wL, mL_wL, stF_stF]) ?_
  simp only [mL_wL, stF_0, stF_1, stF_2] at eq2
  have dk2 := (fEq_disc eq2).trans gg.2.1
  have y1 := rd_rng ps2 rd2 dk2 hd.2.1
  have hh := half_r (x := b1 + b2) (by omega) (by omega)
  refine q_aload_n G 0 0 dX2_product_32 rfl rfl ?_
  refine q_gt (v := .ref lf) G dX2_product_33 fl_X2_32 hF (by decide) rfl (congrArg va_rf r4) ?_
  refine q_gt (v := .long (qL (b1))) G dX2_product_36 fl_X2_64 o4 (by decide) rfl (by simp [mI, mL, mR, sL, sI, sR, wL, wD, stF, up2, n1, n1.symm, n2, n2.symm, n3, n3.symm]) ?_
  refine q_aload_n G 0 0 dX2_product_39 rfl rfl ?_
  refine q_gt (v := .ref rg) G dX2_product_40 fl_X2_35 hF (by decide) rfl (congrArg va_rf r5) ?_
  refine q_gt (v := .long (qL (b2))) G dX2_product_43 fl_X2_64 o5 (by decide) rfl (by simp [mI, mL, mR, sL, sI, sR, wL, wD, stF, up2, n1, n1.symm, n2, n2.symm, n3, n3.symm]) ?_
  refine q_ladd G dX2_product_46 ?_
  refine q_ldc2 (z := 2) G dX2_product_47 tw_284 (by decide +kernel) ?_
  refine q_ldiv G dX2_product_50 (by first | assumption | omega) (by first | assumption | omega) (by first | assumption | omega) ?_
  refine q_lstore (lv' := [(4, .long (qL ((b1 + b2).tdiv 2))), (0, .ref fo), (1, .ref f), (2, .ref g), (3, .ref res)]) G dX2_product_51 (by decide) rfl ?_
  refine q_aload_n G 1 0 dX2_product_53 rfl rfl ?_
  refine q_gt (v := .ref eu) G dX2_product_54 fl_X2_28 hF (by decide) rfl (congrArg va_rf r3) ?_
  refine q_aload_n G 1 0 dX2_product_57 rfl rfl ?_
  refine q_gt (v := .ref lf) G dX2_product_58 fl_X2_32 hF (by decide) rfl (congrArg va_rf r4) ?_
  refine q_gt (v := .long (qL (a1))) G dX2_product_61 fl_X2_60 o4 (by decide) rfl (by simp [mI, mL, mR, sL, sI, sR, wL, wD, stF, up2, n1, n1.symm, n2, n2.symm, n3, n3.symm]) ?_
  refine q_aload_n G 1 0 dX2_product_64 rfl rfl ?_
  refine q_gt (v := .ref rg) G dX2_product_65 fl_X2_35 hF (by decide) rfl (congrArg va_rf r5) ?_
  refine q_gt (v := .long (qL (a2))) G dX2_product_68 fl_X2_60 o5 (by decide) rfl (by simp [mI, mL, mR, sL, sI, sR, wL, wD, stF, up2, n1, n1.symm, n2, n2.symm, n3, n3.symm]) ?_
  refine q_callV (As := [.long (qL (a1)), .long (qL (a2))]) (rest := []) G dX2_product_71 cw_X2_83 (c_X0_find l D cy (wL M (stF (stF (mL M) lf a1 b1 c1) rg a2 b2 c2)) eu o3 (a1) (a2) (by omega) (by omega)) o3.1 o3.2 (by decide) rfl rfl rfl (Nat.le_of_ble_eq_true rfl) rfl rfl ⟨Nat.le_of_ble_eq_true rfl, Nat.le_of_ble_eq_true rfl⟩ ⟨by decide, by decide⟩ (fun v9 M9 hq9 => ?_)
  obtain ⟨rfl, g1, u, v, e9, eu1⟩ := hq9
  refine q_st (st2 := []) rfl ?_
  refine q_mem (M2 := wL M (stF (stF (stF (mL M) lf a1 b1 c1) rg a2 b2 c2) eu g1 u v)) (by rw [e9]; simp only [wL_wL, mL_wL]) ?_
  have hg1 := eu_g eu1 ps1
  refine q_aload_n G 1 0 dX2_product_74 rfl rfl ?_
  refine q_gt (v := .ref eu) G dX2_product_75 fl_X2_28 hF (by decide) rfl (congrArg va_rf r3) ?_
  refine q_gt (v := .long (qL (v))) G dX2_product_78 fl_X2_104 o3 (by decide) rfl (by simp [mI, mL, mR, sL, sI, sR, wL, wD, stF, up2, n1, n1.symm, n2, n2.symm, n3, n3.symm]) ?_
  refine q_lstore (lv' := [(6, .long (qL (v))), (4, .long (qL ((b1 + b2).tdiv 2))), (0, .ref fo), (1, .ref f), (2, .ref g), (3, .ref res)]) G dX2_product_81 (by decide) rfl ?_
  refine q_aload_n G 2 0 dX2_product_83 rfl rfl ?_
  refine q_gt (v := .ref eu) G dX2_product_84 fl_X2_28 hF (by decide) rfl (congrArg va_rf r3) ?_
  refine q_aload_n G 2 0 dX2_product_87 rfl rfl ?_
  refine q_gt (v := .ref eu) G dX2_product_88 fl_X2_28 hF (by decide) rfl (congrArg va_rf r3) ?_
  refine q_gt (v := .long (qL (g1))) G dX2_product_91 fl_X2_87 o3 (by decide) rfl (by simp [mI, mL, mR, sL, sI, sR, wL, wD, stF, up2, n1, n1.symm, n2, n2.symm, n3, n3.symm]) ?_
  refine q_lload G 1 dX2_product_94 rfl ?_
  refine q_callV (As := [.long (qL (g1)), .long (qL ((b1 + b2).tdiv 2))]) (rest := []) G dX2_product_96 cw_X2_83 (c_X0_find l D cy (wL M (stF (stF (stF (mL M) lf a1 b1 c1) rg a2 b2 c2) eu g1 u v)) eu o3 (g1) ((b1 + b2).tdiv 2) (by omega) (by omega)) o3.1 o3.2 (by decide) rfl rfl rfl (Nat.le_of_ble_eq_true rfl) rfl rfl ⟨Nat.le_of_ble_eq_true rfl, Nat.le_of_ble_eq_true rfl⟩ ⟨by decide, by decide⟩ (fun v9 M9 hq9 => ?_)
  obtain ⟨rfl, w, e1, e2, e9, eu2⟩ := hq9
  refine q_st (st2 := []) rfl ?_
  refine q_mem (M2 := wL M (stF (stF (stF (mL M) lf a1 b1 c1) rg a2 b2 c2) eu w e1 e2)) (by rw [e9]; simp only [wL_wL, mL_wL, stF_stF]) ?_
  obtain ⟨P1, P2, P3, P4, P5, P6⟩ := prod_ok (d := mI M fo 0) hd ps1 rd1 dk1 ps2 rd2 dk2 eu1 eu2
  dsimp only at P6
  obtain ⟨P7, P8, P9, P10⟩ := P6
  refine q_aload_n G 2 0 dX2_product_99 rfl rfl ?_
  refine q_gt (v := .ref eu) G dX2_product_100 fl_X2_28 hF (by decide) rfl (congrArg va_rf r3) ?_
  refine q_gt (v := .long (qL (w))) G dX2_product_103 fl_X2_87 o3 (by decide) rfl (by simp [mI, mL, mR, sL, sI, sR, wL, wD, stF, up2, n1, n1.symm, n2, n2.symm, n3, n3.symm]) ?_
  refine q_lstore (lv' := [(8, .long (qL (w))), (6, .long (qL (v))), (4, .long (qL ((b1 + b2).tdiv 2))), (0, .ref fo), (1, .ref f), (2, .ref g), (3, .ref res)]) G dX2_product_106 (by decide) rfl ?_
  refine q_aload_n G 3 0 dX2_product_108 rfl rfl ?_
  refine q_gt (v := .ref lf) G dX2_product_109 fl_X2_32 hF (by decide) rfl (congrArg va_rf r4) ?_
  refine q_gt (v := .long (qL (a1))) G dX2_product_112 fl_X2_60 o4 (by decide) rfl (by simp [mI, mL, mR, sL, sI, sR, wL, wD, stF, up2, n1, n1.symm, n2, n2.symm, n3, n3.symm]) ?_
  refine q_lload G 0 dX2_product_115 rfl ?_
  refine q_callSN (As := [.long (qL (a1)), .long (qL (w))]) (rest := []) G dX2_product_117 cw_X2_69 (c_X4_quotient l D cy _ (a1) (w) (by omega) (by omega)) rfl rfl (Nat.le_of_ble_eq_true rfl) rfl rfl ⟨Nat.le_of_ble_eq_true rfl, Nat.le_of_ble_eq_true rfl⟩ ⟨by decide, by decide⟩ (fun v9 M9 hq9 => ?_)
  obtain ⟨rfl, e9⟩ := hq9
  refine q_mem e9 ?_
  refine q_st (st2 := [.long (qL (quo (a1) (w)))]) rfl ?_
  refine q_lstore (lv' := [(10, .long (qL (quo (a1) (w)))), (8, .long (qL (w))), (6, .long (qL (v))), (4, .long (qL ((b1 + b2).tdiv 2))), (0, .ref fo), (1, .ref f), (2, .ref g), (3, .ref res)]) G dX2_product_120 (by decide) rfl ?_
  refine q_aload_n G 4 0 dX2_product_122 rfl rfl ?_
  refine q_gt (v := .ref rg) G dX2_product_123 fl_X2_35 hF (by decide) rfl (congrArg va_rf r5) ?_
  refine q_gt (v := .long (qL (a2))) G dX2_product_126 fl_X2_60 o5 (by decide) rfl (by simp [mI, mL, mR, sL, sI, sR, wL, wD, stF, up2, n1, n1.symm, n2, n2.symm, n3, n3.symm]) ?_
  refine q_lload G 1 dX2_product_129 rfl ?_
  refine q_callSN (As := [.long (qL (a2)), .long (qL (w))]) (rest := []) G dX2_product_131 cw_X2_69 (c_X4_quotient l D cy _ (a2) (w) (by omega) (by omega)) rfl rfl (Nat.le_of_ble_eq_true rfl) rfl rfl ⟨Nat.le_of_ble_eq_true rfl, Nat.le_of_ble_eq_true rfl⟩ ⟨by decide, by decide⟩ (fun v9 M9 hq9 => ?_)
  obtain ⟨rfl, e9⟩ := hq9
  refine q_mem e9 ?_
  refine q_st (st2 := [.long (qL (quo (a2) (w)))]) rfl ?_
  refine q_lstore (lv' := [(12, .long (qL (quo (a2) (w)))), (10, .long (qL (quo (a1) (w)))), (8, .long (qL (w))), (6, .long (qL (v))), (4, .long (qL ((b1 + b2).tdiv 2))), (0, .ref fo), (1, .ref f), (2, .ref g), (3, .ref res)]) G dX2_product_134 (by decide) rfl ?_
  refine q_aload_n G 5 0 dX2_product_136 rfl rfl ?_
  refine q_gt (v := .ref eu) G dX2_product_137 fl_X2_28 hF (by decide) rfl (congrArg va_rf r3) ?_
  refine q_gt (v := .long (qL (e1))) G dX2_product_140 fl_X2_107 o3 (by decide) rfl (by simp [mI, mL, mR, sL, sI, sR, wL, wD, stF, up2, n1, n1.symm, n2, n2.symm, n3, n3.symm]) ?_
  refine q_lload G 3 dX2_product_143 rfl ?_
  refine q_lmul G dX2_product_145 ?_
  refine q_lload G 4 dX2_product_146 rfl ?_
  refine q_aload_n G 5 0 dX2_product_148 rfl rfl ?_
  refine q_gt (v := .ref rg) G dX2_product_149 fl_X2_35 hF (by decide) rfl (congrArg va_rf r5) ?_
  refine q_gt (v := .long (qL (b2))) G dX2_product_152 fl_X2_64 o5 (by decide) rfl (by simp [mI, mL, mR, sL, sI, sR, wL, wD, stF, up2, n1, n1.symm, n2, n2.symm, n3, n3.symm]) ?_
  refine q_lsub G dX2_product_155 ?_
  refine q_lmul G dX2_product_156 ?_
  refine q_aload_n G 5 0 dX2_product_157 rfl rfl ?_
  refine q_gt (v := .ref eu) G dX2_product_158 fl_X2_28 hF (by decide) rfl (congrArg va_rf r3) ?_
  refine q_gt (v := .long (qL (e2))) G dX2_product_161 fl_X2_104 o3 (by decide) rfl (by simp [mI, mL, mR, sL, sI, sR, wL, wD, stF, up2, n1, n1.symm, n2, n2.symm, n3, n3.symm]) ?_
  refine q_aload_n G 5 0 dX2_product_164 rfl rfl ?_
  refine q_gt (v := .ref rg) G dX2_product_165 fl_X2_35 hF (by decide) rfl (congrArg va_rf r5) ?_
  refine q_gt (v := .long (qL (c2))) G dX2_product_168 fl_X2_73 o5 (by decide) rfl (by simp [mI, mL, mR, sL, sI, sR, wL, wD, stF, up2, n1, n1.symm, n2, n2.symm, n3, n3.symm]) ?_
  refine q_lmul G dX2_product_171 ?_
  refine q_lsub G dX2_product_172 ?_
  refine q_lstore (lv' := [(14, .long (qL (((e1 * v) * (((b1 + b2).tdiv 2) - b2)) - (e2 * c2)))), (12, .long (qL (quo (a2) (w)))), (10, .long (qL (quo (a1) (w)))), (8, .long (qL (w))), (6, .long (qL (v))), (4, .long (qL ((b1 + b2).tdiv 2))), (0, .ref fo), (1, .ref f), (2, .ref g), (3, .ref res)]) G dX2_product_173 (by decide) rfl ?_
  refine q_aload_n G 6 0 dX2_product_175 rfl rfl ?_
  refine q_aload_n G 9 3 dX2_product_176 rfl rfl ?_
  refine q_lload G 2 dX2_product_177 rfl ?_
  refine q_lload G 1 dX2_product_179 rfl ?_
  refine q_lmul G dX2_product_181 ?_
  refine q_aload_n G 6 0 dX2_product_182 rfl rfl ?_
  refine q_gt (v := .ref rg) G dX2_product_183 fl_X2_35 hF (by decide) rfl (congrArg va_rf r5) ?_
  refine q_gt (v := .long (qL (b2))) G dX2_product_186 fl_X2_64 o5 (by decide) rfl (by simp [mI, mL, mR, sL, sI, sR, wL, wD, stF, up2, n1, n1.symm, n2, n2.symm, n3, n3.symm]) ?_
  refine q_ldc2 (z := 2) G dX2_product_189 tw_284 (by decide +kernel) ?_
  refine q_lload G 1 dX2_product_192 rfl ?_
  refine q_lmul G dX2_product_194 ?_
  refine q_lload G 0 dX2_product_195 rfl ?_
  refine q_lload G 2 dX2_product_197 rfl ?_
  refine q_callSN (As := [.long (qL (((e1 * v) * (((b1 + b2).tdiv 2) - b2)) - (e2 * c2))), .long (qL (quo (a1) (w)))]) (rest := [.long (qL (2 * (quo (a2) (w)))), .long (qL (b2)), .long (qL ((quo (a1) (w)) * (quo (a2) (w)))), .ref res, .ref fo]) G dX2_product_199 cw_X2_76 (c_X4_remainder l D cy _ (((e1 * v) * (((b1 + b2).tdiv 2) - b2)) - (e2 * c2)) (quo (a1) (w)) P4 (by omega)) rfl rfl (Nat.le_of_ble_eq_true rfl) rfl rfl ⟨Nat.le_of_ble_eq_true rfl, Nat.le_of_ble_eq_true rfl⟩ ⟨by decide, by decide⟩ (fun v9 M9 hq9 => ?_)
  obtain ⟨rfl, e9⟩ := hq9
  refine q_mem e9 ?_
  refine q_st (st2 := [.long (qL (rmd (((e1 * v) * (((b1 + b2).tdiv 2) - b2)) - (e2 * c2)) (quo (a1) (w)))), .long (qL (2 * (quo (a2) (w)))), .long (qL (b2)), .long (qL ((quo (a1) (w)) * (quo (a2) (w)))), .ref res, .ref fo]) rfl ?_
  refine q_lmul G dX2_product_202 ?_
  refine q_ladd G dX2_product_203 ?_
  refine q_callV (As := [.ref res, .long (qL ((quo (a1) (w)) * (quo (a2) (w)))), .long (qL (b2 + ((2 * (quo (a2) (w))) * (rmd (((e1 * v) * (((b1 + b2).tdiv 2) - b2)) - (e2 * c2)) (quo (a1) (w))))))]) (rest := []) G dX2_product_204 cw_X2_50 (c_X2_complete l D cy (wL M (stF (stF (stF (mL M) lf a1 b1 c1) rg a2 b2 c2) eu w e1 e2)) fo res hF hr ((quo (a1) (w)) * (quo (a2) (w))) (b2 + ((2 * (quo (a2) (w))) * (rmd (((e1 * v) * (((b1 + b2).tdiv 2) - b2)) - (e2 * c2)) (quo (a1) (w))))) P7 P8 hdi) hF.1 hF.2 (by decide) rfl rfl rfl (Nat.le_of_ble_eq_true rfl) rfl rfl ⟨Nat.le_of_ble_eq_true rfl, Nat.le_of_ble_eq_true rfl⟩ ⟨by decide, by decide⟩ (fun v9 M9 hq9 => ?_)
  obtain ⟨rfl, e9⟩ := hq9
  refine q_mem e9 ?_
  refine q_st (st2 := []) rfl ?_
  refine q_mem (M2 := wL M (stF (stF (stF (stF (mL M) lf a1 b1 c1) rg a2 b2 c2) eu w e1 e2) res ((quo (a1) (w)) * (quo (a2) (w))) (b2 + ((2 * (quo (a2) (w))) * (rmd (((e1 * v) * (((b1 + b2).tdiv 2) - b2)) - (e2 * c2)) (quo (a1) (w))))) (quo ((b2 + ((2 * (quo (a2) (w))) * (rmd (((e1 * v) * (((b1 + b2).tdiv 2) - b2)) - (e2 * c2)) (quo (a1) (w))))) * (b2 + ((2 * (quo (a2) (w))) * (rmd (((e1 * v) * (((b1 + b2).tdiv 2) - b2)) - (e2 * c2)) (quo (a1) (w))))) + mI M fo 0) (4 * ((quo (a1) (w)) * (quo (a2) (w))))))) (by simp only [wL_wL, mL_wL]; rfl) ?_
  refine q_aload_n G 6 0 dX2_product_207 rfl rfl ?_
  refine q_aload_n G 9 3 dX2_product_208 rfl rfl ?_
  refine q_callV (As := [.ref res]) (rest := []) G dX2_product_209 cw_X2_56 (c_X2_settle l D cy _ _ _ hF hr (by show 0 < mI M fo 0; have := hd.1; omega) hd.2.1 (by simp only [mL_wL, stF_0, stF_1, stF_2]; exact P10)) hF.1 hF.2 (by decide) rfl rfl rfl (Nat.le_of_ble_eq_true rfl) rfl rfl ⟨Nat.le_of_ble_eq_true rfl, Nat.le_of_ble_eq_true rfl⟩ ⟨by decide, by decide⟩ (fun v9 M9 hq9 => ?_)
  obtain ⟨rfl, x, y, z, e9, rd3, ps3, eq3⟩ := hq9
  refine q_st (st2 := []) rfl ?_
  refine q_mem (M2 := wL M (stF (stF (stF (stF (mL M) lf a1 b1 c1) rg a2 b2 c2) eu w e1 e2) res x y z)) (by rw [e9]; simp only [wL_wL, mL_wL, stF_stF]) ?_
  simp only [mL_wL, stF_0, stF_1, stF_2] at eq3
  exact q_vret G dX2_product_212 hret (by omega) (by omega) (⟨rfl, _, x, y, z, rfl, (fun b k h1 h2 h3 h4 => by rw [stF_n _ _ _ _ h4, stF_n _ _ _ _ h3, stF_n _ _ _ _ h2, stF_n _ _ _ _ h1]), stF_0 _ _ _ _ _, stF_1 _ _ _ _ _, stF_2 _ _ _ _ _, rd3, ps3, _, _, _, fCu_right (fCu_left P9 (fEq_symm eq1)) (fEq_symm eq2), eq3⟩)
end
section
/-! products and powers as functions -/
abbrev qT3 : Type := Int × Int × Int
def gT (L : Nat → Nat → Int) (a : Nat) : qT3 := (L a 0, L a 1, L a 2)
theorem gT_eq {L L' : Nat → Nat → Int} {a : Nat} (h : ∀ k, L' a k = L a k) : gT L' a = gT L a := by unfold gT; rw [h, h, h]
theorem gT_stF (L : Nat → Nat → Int) (a : Nat) (x y z : Int) : gT (stF L a x y z) a = (x, y, z) := by unfold gT; rw [stF_0, stF_1, stF_2]
theorem gT_stF_n (L : Nat → Nat → Int) {a b : Nat} (x y z : Int) (h : b ≠ a) : gT (stF L a x y z) b = gT L b := gT_eq (fun k => stF_n L x y z h k)
abbrev rdT (t : qT3) : Prop := isRd t.1 t.2.1 t.2.2
/-- a form of the discriminant -d, of a size that longs bear -/
def gd (d : Int) (t : qT3) : Prop := sOk d t.1 t.2.1 t.2.2 ∧ fPr t.1 t.2.1 t.2.2
def mlT (f g t : qT3) : Prop := isMul f.1 f.2.1 f.2.2 g.1 g.2.1 g.2.2 t.1 t.2.1 t.2.2
noncomputable def mulT (f g : qT3) : qT3 := Classical.epsilon (fun t => mlT f g t)
theorem mlT_unique {d : Int} {f g t t' : qT3} (hf : gd d f) (h : mlT f g t) (h' : mlT f g t') : t = t' := by
  obtain ⟨e1, e2, e3⟩ := isMul_unique hf.2 h h'
  obtain ⟨x, y, z⟩ := t
  obtain ⟨x', y', z'⟩ := t'
  simp only at e1 e2 e3
  rw [e1, e2, e3]
theorem mulT_eq {d : Int} {f g t : qT3} (hf : gd d f) (h : mlT f g t) : mulT f g = t :=
  mlT_unique hf (Classical.epsilon_spec (p := fun t => mlT f g t) ⟨t, h⟩) h
theorem mlT_good {d : Int} {f g t : qT3} (hd : dOk d) (hf : gd d f) (hg : gd d g) (h : mlT f g t) : gd d t ∧ rdT t := by
  obtain ⟨h1, h2⟩ := isMul_good h hf.2 hg.2
  have hr := h.1
  have hp := h.2.1
  exact ⟨⟨sOk_rd hd.2.1 hp hr (h2.trans hf.1.2.1), h1⟩, hr⟩
/-- a power, from its lowest bit on -/
noncomputable def pwN : Nat → Nat → qT3 → qT3 → qT3
  | 0, _, _, s => s
  | k + 1, n, b, s => if n = 0 then s else pwN k (n / 2) (mulT b b) (if n % 2 = 1 then mulT s b else s)
noncomputable def powT (un f : qT3) (n : Int) : qT3 := pwN 32 n.toNat f un
def unT (d : Int) : qT3 := (1, 1, (1 + d) / 4)
theorem qI_nI {n : Nat} : qI (n : Int) = nI n := Int32.ofInt_eq_ofNat
theorem qand_1 {x : Int} (h : 0 ≤ x) (h2 : x < 2147483648) : qand x 1 = x % 2 := by
  obtain ⟨n, rfl⟩ : ∃ n : Nat, x = n := ⟨x.toNat, by omega⟩
  unfold qand
  rw [qI_nI]
  have e := pk_andN (n := n) (by omega) (m := qI 1) 1 (by decide)
  rw [e, nI_toInt (by omega)]; omega
theorem qshr_1 {x : Int} (h : 0 ≤ x) (h2 : x < 2147483648) : qshr x 1 = x / 2 := by
  obtain ⟨n, rfl⟩ : ∃ n : Nat, x = n := ⟨x.toNat, by omega⟩
  unfold qshr
  rw [qI_nI]
  have e := pk_shrN (n := n) (by omega) (qI 1 &&& 31) 1 (by decide)
  rw [e, nI_toInt (by omega)]; omega
theorem unT_ok {d : Int} (hd : dOk d) : 4 * ((1 + d) / 4) = 1 + d ∧ 0 < (1 + d) / 4 := by
  obtain ⟨h1, h2, h3⟩ := hd
  omega
theorem unT_gd {d : Int} (hd : dOk d) : gd d (unT d) ∧ rdT (unT d) := by
  have h := unT_ok hd
  obtain ⟨h1, h2, h3⟩ := hd
  refine ⟨⟨⟨by show (0 : Int) < 1; decide, ?_, by show (1 : Int) ≤ 2147483648; decide, by show (-2305843009213693952 : Int) ≤ 1 ∧ (1 : Int) ≤ 2305843009213693952; decide, ?_⟩, ⟨1, 0, 0, by show 1 * 1 + 0 * 1 + 0 * _ = (1 : Int); omega⟩⟩, ?_⟩
  · show (1 : Int) * 1 - 4 * 1 * ((1 + d) / 4) = -d
    omega
  · show (1 + d) / 4 ≤ _
    omega
  · show -(1 : Int) < 1 ∧ (1 : Int) ≤ 1 ∧ 1 ≤ (1 + d) / 4 ∧ (1 = (1 + d) / 4 → (0 : Int) ≤ 1)
    omega
theorem gT_e {L : Nat → Nat → Int} {a : Nat} {x y z : Int} (h0 : L a 0 = x) (h1 : L a 1 = y) (h2 : L a 2 = z) : gT L a = (x, y, z) := by unfold gT; rw [h0, h1, h2]
/-- the product's contract, by functions -/
def po_prodT (M : qM) (lf rg eu : Nat) (f g res : Nat) (d : Int) : Option Value → qM → Prop := fun v M' => v = none ∧ ∃ L, M' = wL M L ∧ (∀ b k, b ≠ lf → b ≠ rg → b ≠ eu → b ≠ res → L b k = mL M b k) ∧ gT L res = mulT (gT (mL M) f) (gT (mL M) g) ∧ gd d (gT L res) ∧ rdT (gT L res)
theorem c_prodT (l : Launch) (D : va_G) (cy : Nat → ClassId) (M : qM) (fo un ge eu lf rg ba so on ot : Nat) (hFO : qFO M fo un ge eu lf rg ba so on ot) (hd : dOk (mI M fo 0)) (f g res : Nat) (hf : qO M f 1) (hg : qO M g 1) (hr : qO M res 1) (ngl : g ≠ lf) (gf : gd (mI M fo 0) (gT (mL M) f)) (gg : gd (mI M fo 0) (gT (mL M) g)) :
    qCt l D cy yX2_product cX2_product 16 none { frames := 3, cells := 0, slots := 0, locals := 68 } 0 0 [.ref fo, .ref f, .ref g, .ref res] M (po_prodT M lf rg eu f g res (mI M fo 0)) := by
  refine qCt_post (c_X2_product l D cy M fo un ge eu lf rg ba so on ot hFO hd f g res hf hg hr ngl gf.1 gg.1) ?_
  rintro v M' ⟨h1, L, x, y, z, h2, h3, h4, h5, h6, h7⟩
  have h8 : mlT (gT (mL M) f) (gT (mL M) g) (x, y, z) := h7
  have h9 := mlT_good hd gf gg h8
  refine ⟨h1, L, h2, h3, ?_⟩
  rw [gT_e h4 h5 h6]
  exact ⟨(mulT_eq gf h8).symm, h9.1, h9.2⟩
end
section
def po_power (M : qM) (lf rg eu ba so res : Nat) (d : Int) (t : qT3) : Option Value → qM → Prop := fun v M' => v = none ∧ ∃ L, M' = wL M L ∧ (∀ b k, b ≠ lf → b ≠ rg → b ≠ eu → b ≠ ba → b ≠ so → b ≠ res → L b k = mL M b k) ∧ gT L res = t ∧ gd d t
def pwI (M : qM) (lf rg eu ba so : Nat) (d : Int) (t : qT3) (bits : Int) (L : Nat → Nat → Int) (k : Nat) : Prop := (0 ≤ bits ∧ bits < 2147483648 ∧ bits < 2 ^ k ∧ k ≤ 31) ∧ (∀ b j, b ≠ lf → b ≠ rg → b ≠ eu → b ≠ ba → b ≠ so → L b j = mL M b j) ∧ gd d (gT L ba) ∧ gd d (gT L so) ∧ pwN (k + 1) bits.toNat (gT L ba) (gT L so) = t
theorem pwI_k {M : qM} {lf rg eu ba so : Nat} {d : Int} {t : qT3} {bits : Int} {L : Nat → Nat → Int} {k : Nat} (h : pwI M lf rg eu ba so d t bits L k) (h0 : 0 < bits) : ∃ j, k = j + 1 ∧ bits / 2 < 2 ^ j := by
  obtain ⟨⟨h1, h2, h3, h4⟩, -⟩ := h
  have : k ≠ 0 := by
    rintro rfl
    rw [Int.pow_zero] at h3; omega
  obtain ⟨j, rfl⟩ : ∃ j, k = j + 1 := ⟨k - 1, by omega⟩
  refine ⟨j, rfl, ?_⟩
  rw [Int.pow_succ] at h3
  generalize (2 : Int) ^ j = w at h3 ⊢
  omega
set_option maxRecDepth 100000 in
set_option maxHeartbeats 4000000 in
theorem l_power {p : Program} {e : Env} {s : State} {m : MethodId} {args : Array Value} {below : List Frame} {meth : Method} {c : Code} (l : Launch) (D : va_G) (cy : Nat → ClassId) (M : qM) (fo un ge eu lf rg ba so on ot : Nat) (hFO : qFO M fo un ge eu lf rg ba so on ot) (hd : dOk (mI M fo 0)) (res : Nat) (hr : qO M res 1) (t : qT3) (G : qG p s m args meth c cX2_power 5 yX2_power.cls D cy (qA (mP M) s.heap.size)) (hret : meth.sig.returnType = none) : ∀ (w9 : Nat) (bits : Int) (L : Nat → Nat → Int) (k : Nat), bits.toNat < w9 → pwI M lf rg eu ba so (mI M fo 0) t bits L k → qK p l e { frames := 4, cells := 0, slots := 0, locals := 103 } s m args below meth c (MQ below (qQ D cy (mP M) (po_power M lf rg eu ba so res (mI M fo 0) t)) args s 0 0 (qA (mP M) s.heap.size)) 5 D cy (qA (mP M) s.heap.size) 0 0 22 [(4, .int (qI (bits))), (3, .ref res), (0, .ref fo)] [] (wL M L) := by
  intro w9
  induction w9 with
  | zero => intro bits L k h9; exact absurd h9 (Nat.not_lt_zero _)
  | succ w9 ih =>
    intro bits L k hm hI
    obtain ⟨hF, ⟨r1, r2, r3, r4, r5, r6, r7, r8, r9⟩, ⟨o1, o2, o3, o4, o5, o6, o7, o8, o9⟩, hnd, hdi⟩ := id hFO
    have hb1 : bits < 2147483648 := hI.1.2.1
    have hk1 : k ≤ 31 := hI.1.2.2.2
    have n_ba_lf : ba ≠ lf := (fun h9 => by subst h9; simp at hnd)
    have n_ba_rg : ba ≠ rg := (fun h9 => by subst h9; simp at hnd)
    have n_ba_eu : ba ≠ eu := (fun h9 => by subst h9; simp at hnd)
    have n_ba_so : ba ≠ so := (fun h9 => by subst h9; simp at hnd)
    have n_so_lf : so ≠ lf := (fun h9 => by subst h9; simp at hnd)
    have n_so_rg : so ≠ rg := (fun h9 => by subst h9; simp at hnd)
    have n_so_eu : so ≠ eu := (fun h9 => by subst h9; simp at hnd)
    have n_so_ba : so ≠ ba := (fun h9 => by subst h9; simp at hnd)
    refine q_iload G 0 dX2_power_22 rfl ?_
    refine q_if_le (tgt := 76) G dX2_power_24 (by decide) (by have := hI.1.1; omega) (fun c1 => ?_) (fun c1 => ?_)
    · refine q_aload_n G 1 3 dX2_power_76 rfl rfl ?_
      refine q_aload_n G 2 0 dX2_power_77 rfl rfl ?_
      refine q_gt (v := .ref so) G dX2_power_78 fl_X2_41 hF (by decide) rfl (congrArg va_rf r7) ?_
      refine q_callV (As := [.ref so]) (rest := []) G dX2_power_81 cw_X2_101 (c_X1_become l D cy (wL M L) res so hr o7) hr.1 hr.2 (by decide) rfl rfl rfl (Nat.le_of_ble_eq_true rfl) rfl rfl ⟨Nat.le_of_ble_eq_true rfl, Nat.le_of_ble_eq_true rfl⟩ ⟨by decide, by decide⟩ (fun v9 M9 hq9 => ?_)
      obtain ⟨rfl, e9⟩ := hq9
      refine q_mem e9 ?_
      refine q_st (st2 := []) rfl ?_
      exact q_vret G dX2_power_84 hret (by omega) (by omega) (⟨rfl, _, rfl, (fun b k h1 h2 h3 h4 h5 h6 => by rw [stF_n _ _ _ _ h6]; exact hI.2.1 b k h1 h2 h3 h4 h5), by rw [gT_stF]; have h6 := hI.2.2.2.2; rw [show bits.toNat = 0 by omega, pwN, if_pos rfl] at h6; exact h6, by have h6 := hI.2.2.2.2; rw [show bits.toNat = 0 by omega, pwN, if_pos rfl] at h6; rw [← h6]; exact hI.2.2.2.1⟩)
    · obtain ⟨j1, rfl, hj⟩ := pwI_k hI c1
      refine q_iload G 0 dX2_power_27 rfl ?_
      refine q_iconst G dX2_power_29 ?_
      refine q_iand G dX2_power_30 ?_
      refine q_topI (z2 := bits % 2) (qand_1 hI.1.1 hI.1.2.1) ?_
      refine q_iconst G dX2_power_31 ?_
      refine q_icmp_ne (tgt := 51) G dX2_power_32 (by decide) (by clear hj; omega) (by clear hj; omega) (fun c2 => ?_) (fun c2 => ?_)
      · refine q_aload_n G 2 0 dX2_power_51 rfl rfl ?_
        refine q_aload_n G 2 0 dX2_power_52 rfl rfl ?_
        refine q_gt (v := .ref ba) G dX2_power_53 fl_X2_38 hF (by decide) rfl (congrArg va_rf r6) ?_
        refine q_aload_n G 2 0 dX2_power_56 rfl rfl ?_
        refine q_gt (v := .ref ba) G dX2_power_57 fl_X2_38 hF (by decide) rfl (congrArg va_rf r6) ?_
        refine q_aload_n G 2 0 dX2_power_60 rfl rfl ?_
        refine q_gt (v := .ref ba) G dX2_power_61 fl_X2_38 hF (by decide) rfl (congrArg va_rf r6) ?_
        refine q_callV (As := [.ref ba, .ref ba, .ref ba]) (rest := []) G dX2_power_64 cw_X2_110 (c_prodT l D cy (wL M L) fo un ge eu lf rg ba so on ot hFO hd ba ba ba o6 o6 o6 n_ba_lf hI.2.2.1 hI.2.2.1) hF.1 hF.2 (by decide) rfl rfl rfl (Nat.le_of_ble_eq_true rfl) rfl rfl ⟨Nat.le_of_ble_eq_true rfl, Nat.le_of_ble_eq_true rfl⟩ ⟨by decide, by decide⟩ (fun v9 M9 hq9 => ?_)
        obtain ⟨rfl, L2, e9, fr2, v2, g2, d2⟩ := hq9
        refine q_st (st2 := []) rfl ?_
        refine q_mem (M2 := wL M L2) e9 ?_
        have hba2 : gT L2 ba = mulT (gT L ba) (gT L ba) ∧ gd (mI M fo 0) (gT L2 ba) := ⟨v2, g2⟩
        have h6s : gT L2 so = gT L so := gT_eq (fun k => fr2 so k n_so_lf n_so_rg n_so_eu n_so_ba)
        have hso2 : gT L2 so = gT L so ∧ gd (mI M fo 0) (gT L2 so) := by rw [h6s]; exact ⟨rfl, hI.2.2.2.1⟩
        refine q_iload G 0 dX2_power_67 rfl ?_
        refine q_iconst G dX2_power_69 ?_
        refine q_ishr G dX2_power_70 ?_
        refine q_topI (z2 := bits / 2) (qshr_1 hI.1.1 hI.1.2.1) ?_
        refine q_istore (lv' := [(4, .int (qI (bits / 2))), (3, .ref res), (0, .ref fo)]) G dX2_power_71 (by decide) rfl ?_
        refine q_goto (tgt := 22) G dX2_power_73 (by decide) ?_
        refine q_lvs [0, 1, 2] rfl ?_
        exact ih (bits / 2) L2 j1 (by clear hj; omega) ⟨⟨by clear hj; omega, by clear hj; omega, hj, by clear hj; omega⟩, (fun b j h1 h2 h3 h4 h5 => (fr2 b j h1 h2 h3 h4).trans (hI.2.1 b j h1 h2 h3 h4 h5)), hba2.2, hso2.2, by rw [hba2.1, hso2.1]; have h6 := hI.2.2.2.2; rw [pwN, if_neg (show ¬ bits.toNat = 0 by clear hj; omega)] at h6; rw [show (bits / 2).toNat = bits.toNat / 2 by clear hj; omega]; rw [if_neg (show ¬ bits.toNat % 2 = 1 by clear hj; omega)] at h6; exact h6⟩
      · refine q_aload_n G 2 0 dX2_power_35 rfl rfl ?_
        refine q_aload_n G 2 0 dX2_power_36 rfl rfl ?_
        refine q_gt (v := .ref so) G dX2_power_37 fl_X2_41 hF (by decide) rfl (congrArg va_rf r7) ?_
        refine q_aload_n G 2 0 dX2_power_40 rfl rfl ?_
        refine q_gt (v := .ref ba) G dX2_power_41 fl_X2_38 hF (by decide) rfl (congrArg va_rf r6) ?_
        refine q_aload_n G 2 0 dX2_power_44 rfl rfl ?_
        refine q_gt (v := .ref so) G dX2_power_45 fl_X2_41 hF (by decide) rfl (congrArg va_rf r7) ?_
        refine q_callV (As := [.ref so, .ref ba, .ref so]) (rest := []) G dX2_power_48 cw_X2_110 (c_prodT l D cy (wL M L) fo un ge eu lf rg ba so on ot hFO hd so ba so o7 o6 o7 n_ba_lf hI.2.2.2.1 hI.2.2.1) hF.1 hF.2 (by decide) rfl rfl rfl (Nat.le_of_ble_eq_true rfl) rfl rfl ⟨Nat.le_of_ble_eq_true rfl, Nat.le_of_ble_eq_true rfl⟩ ⟨by decide, by decide⟩ (fun v9 M9 hq9 => ?_)
        obtain ⟨rfl, L1, e9, fr1, v1, g1, d1⟩ := hq9
        refine q_st (st2 := []) rfl ?_
        refine q_mem (M2 := wL M L1) e9 ?_
        have hba1 : gT L1 ba = gT L ba := gT_eq (fun k => fr1 ba k n_ba_lf n_ba_rg n_ba_eu n_ba_so)
        refine q_aload_n G 2 0 dX2_power_51 rfl rfl ?_
        refine q_aload_n G 2 0 dX2_power_52 rfl rfl ?_
        refine q_gt (v := .ref ba) G dX2_power_53 fl_X2_38 hF (by decide) rfl (congrArg va_rf r6) ?_
        refine q_aload_n G 2 0 dX2_power_56 rfl rfl ?_
        refine q_gt (v := .ref ba) G dX2_power_57 fl_X2_38 hF (by decide) rfl (congrArg va_rf r6) ?_
        refine q_aload_n G 2 0 dX2_power_60 rfl rfl ?_
        refine q_gt (v := .ref ba) G dX2_power_61 fl_X2_38 hF (by decide) rfl (congrArg va_rf r6) ?_
        refine q_callV (As := [.ref ba, .ref ba, .ref ba]) (rest := []) G dX2_power_64 cw_X2_110 (c_prodT l D cy (wL M L1) fo un ge eu lf rg ba so on ot hFO hd ba ba ba o6 o6 o6 n_ba_lf (show gd (mI M fo 0) (gT L1 ba) by rw [hba1]; exact hI.2.2.1) (show gd (mI M fo 0) (gT L1 ba) by rw [hba1]; exact hI.2.2.1)) hF.1 hF.2 (by decide) rfl rfl rfl (Nat.le_of_ble_eq_true rfl) rfl rfl ⟨Nat.le_of_ble_eq_true rfl, Nat.le_of_ble_eq_true rfl⟩ ⟨by decide, by decide⟩ (fun v9 M9 hq9 => ?_)
        obtain ⟨rfl, L2, e9, fr2, v2, g2, d2⟩ := hq9
        refine q_st (st2 := []) rfl ?_
        refine q_mem (M2 := wL M L2) e9 ?_
        have hba2 : gT L2 ba = mulT (gT L ba) (gT L ba) ∧ gd (mI M fo 0) (gT L2 ba) := ⟨v2.trans (by show mulT (gT L1 ba) (gT L1 ba) = _; rw [hba1]), g2⟩
        have h6s : gT L2 so = gT L1 so := gT_eq (fun k => fr2 so k n_so_lf n_so_rg n_so_eu n_so_ba)
        have hso2 : gT L2 so = mulT (gT L so) (gT L ba) ∧ gd (mI M fo 0) (gT L2 so) := by rw [h6s]; exact ⟨v1, g1⟩
        refine q_iload G 0 dX2_power_67 rfl ?_
        refine q_iconst G dX2_power_69 ?_
        refine q_ishr G dX2_power_70 ?_
        refine q_topI (z2 := bits / 2) (qshr_1 hI.1.1 hI.1.2.1) ?_
        refine q_istore (lv' := [(4, .int (qI (bits / 2))), (3, .ref res), (0, .ref fo)]) G dX2_power_71 (by decide) rfl ?_
        refine q_goto (tgt := 22) G dX2_power_73 (by decide) ?_
        refine q_lvs [0, 1, 2] rfl ?_
        exact ih (bits / 2) L2 j1 (by clear hj; omega) ⟨⟨by clear hj; omega, by clear hj; omega, hj, by clear hj; omega⟩, (fun b j h1 h2 h3 h4 h5 => (fr2 b j h1 h2 h3 h4).trans ((fr1 b j h1 h2 h3 h5).trans (hI.2.1 b j h1 h2 h3 h4 h5))), hba2.2, hso2.2, by rw [hba2.1, hso2.1]; have h6 := hI.2.2.2.2; rw [pwN, if_neg (show ¬ bits.toNat = 0 by clear hj; omega)] at h6; rw [show (bits / 2).toNat = bits.toNat / 2 by clear hj; omega]; rw [if_pos (show bits.toNat % 2 = 1 by clear hj; omega)] at h6; exact h6⟩
set_option maxRecDepth 100000 in
set_option maxHeartbeats 4000000 in
theorem c_X2_power (l : Launch) (D : va_G) (cy : Nat → ClassId) (M : qM) (fo un ge eu lf rg ba so on ot : Nat) (hFO : qFO M fo un ge eu lf rg ba so on ot) (hd : dOk (mI M fo 0)) (hun : gT (mL M) un = unT (mI M fo 0)) (f res : Nat) (n : Int) (hf : qO M f 1) (hr : qO M res 1) (hn : 0 ≤ n ∧ n < 2147483648) (gf : gd (mI M fo 0) (gT (mL M) f)) : qCt l D cy yX2_power cX2_power 5 none { frames := 4, cells := 0, slots := 0, locals := 103 } 0 0 [.ref fo, .ref f, .int (qI (n)), .ref res] M (po_power M lf rg eu ba so res (mI M fo 0) (powT (unT (mI M fo 0)) (gT (mL M) f) n)) := by
  refine qCt_of (lv0 := [(0, .ref fo), (1, .ref f), (2, .int (qI (n))), (3, .ref res)]) (by decide) rfl (Nat.le_of_ble_eq_true rfl) ?_
  intro p e s m args below meth c G hname hret
  obtain ⟨hF, ⟨r1, r2, r3, r4, r5, r6, r7, r8, r9⟩, ⟨o1, o2, o3, o4, o5, o6, o7, o8, o9⟩, hnd, hdi⟩ := id hFO
  have n_ba_so : ba ≠ so := (fun h9 => by subst h9; simp at hnd)
  have n_un_ba : un ≠ ba := (fun h9 => by subst h9; simp at hnd)
  refine q_aload_n G 0 0 dX2_power_0 rfl rfl ?_
  refine q_gt (v := .ref ba) G dX2_power_1 fl_X2_38 hF (by decide) rfl (congrArg va_rf r6) ?_
  refine q_aload_n G 1 1 dX2_power_4 rfl rfl ?_
  refine q_callV (As := [.ref f]) (rest := []) G dX2_power_5 cw_X2_101 (c_X1_become l D cy M ba f o6 hf) o6.1 o6.2 (by decide) rfl rfl rfl (Nat.le_of_ble_eq_true rfl) rfl rfl ⟨Nat.le_of_ble_eq_true rfl, Nat.le_of_ble_eq_true rfl⟩ ⟨by decide, by decide⟩ (fun v9 M9 hq9 => ?_)
  obtain ⟨rfl, e9⟩ := hq9
  refine q_mem e9 ?_
  refine q_st (st2 := []) rfl ?_
  refine q_aload_n G 0 0 dX2_power_8 rfl rfl ?_
  refine q_gt (v := .ref so) G dX2_power_9 fl_X2_41 hF (by decide) rfl (congrArg va_rf r7) ?_
  refine q_aload_n G 0 0 dX2_power_12 rfl rfl ?_
  refine q_gt (v := .ref un) G dX2_power_13 fl_X2_18 hF (by decide) rfl (congrArg va_rf r1) ?_
  refine q_callV (As := [.ref un]) (rest := []) G dX2_power_16 cw_X2_101 (c_X1_become l D cy (wL M (stF (mL M) ba (mL M f 0) (mL M f 1) (mL M f 2))) so un o7 o1) o7.1 o7.2 (by decide) rfl rfl rfl (Nat.le_of_ble_eq_true rfl) rfl rfl ⟨Nat.le_of_ble_eq_true rfl, Nat.le_of_ble_eq_true rfl⟩ ⟨by decide, by decide⟩ (fun v9 M9 hq9 => ?_)
  obtain ⟨rfl, e9⟩ := hq9
  refine q_mem e9 ?_
  refine q_st (st2 := []) rfl ?_
  refine q_mem (M2 := wL M (stF (stF (mL M) ba (mL M f 0) (mL M f 1) (mL M f 2)) so (mL M un 0) (mL M un 1) (mL M un 2))) (by simp only [wL_wL, mL_wL, stF_n _ _ _ _ n_un_ba]) ?_
  refine q_iload_n G 2 2 dX2_power_19 rfl rfl ?_
  refine q_istore (lv' := [(4, .int (qI (n))), (0, .ref fo), (1, .ref f), (2, .int (qI (n))), (3, .ref res)]) G dX2_power_20 (by decide) rfl ?_
  refine q_lvs [0, 4, 1] rfl ?_
  exact l_power l D cy M fo un ge eu lf rg ba so on ot hFO hd res hr _ G hret _ n (stF (stF (mL M) ba (mL M f 0) (mL M f 1) (mL M f 2)) so (mL M un 0) (mL M un 1) (mL M un 2)) 31 (Nat.lt_succ_self _) ⟨⟨hn.1, hn.2, by have := hn.2; omega, Nat.le_refl _⟩, (fun b j h1 h2 h3 h4 h5 => by rw [stF_n _ _ _ _ h5, stF_n _ _ _ _ h4]), by rw [gT_stF_n _ _ _ _ n_ba_so, gT_stF]; exact gf, by rw [gT_stF]; exact (show gd (mI M fo 0) (gT (mL M) un) by rw [hun]; exact (unT_gd hd).1), by rw [gT_stF_n _ _ _ _ n_ba_so, gT_stF, gT_stF]; show pwN 32 n.toNat (gT (mL M) f) (gT (mL M) un) = _; rw [hun]; rfl⟩
end
