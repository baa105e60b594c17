/-! the law: reading the script; what holds between two calls -/
section SLD
variable {p : Program} {l : Launch} {e : Env} {R : Room} {s : State} {m : MethodId} {args : Array Value} {below : List Frame} {meth : Method} {c : Code} {Q : State → Prop}
variable {cc : ByteArray} {nL : Nat} {own : String} {D : va_G} {cy : Nat → ClassId} {A : Nat → Prop} {cells slots : Nat} {pc : Nat} {lv lv' : List (Nat × Value)} {st : List Value} {M : qM}
theorem q_sld (G : qG p s m args meth c cc nL own D cy A) {b Ln : Nat} {xs : Nat → Int32} (hX : va_X b Ln xs s s.heap) (hbl : b < s.heap.size) (hbA : ¬ A b) {i : Int} (hd : decode cc pc = .ok (.iaload, 1)) (h0 : 0 ≤ i) (hi : i < Ln) (hN : Ln < 2147483648) (kk : qK p l e R s m args below meth c Q nL D cy A cells slots (pc + 1) lv (.int (qI ((xs i.toNat).toInt)) :: st) M) : qK p l e R s m args below meth c Q nL D cy A cells slots pc lv (.int (qI i) :: .ref b :: st) M := by
  intro H locs ls hP hD hS hL
  refine va_sld G.1 G.2.1 hX hbl hbA hS (qI_in h0 hi hN) hd ?_
  have := kk H locs ls hP hD hS hL
  rw [← qI_of, ← qI_nat h0 (by omega)] at this
  exact this
theorem q_slen (G : qG p s m args meth c cc nL own D cy A) {b Ln : Nat} {xs : Nat → Int32} (hX : va_X b Ln xs s s.heap) (hbl : b < s.heap.size) (hbA : ¬ A b) (hd : decode cc pc = .ok (.arraylength, 1)) (kk : qK p l e R s m args below meth c Q nL D cy A cells slots (pc + 1) lv (.int (qI (Ln : Int)) :: st) M) : qK p l e R s m args below meth c Q nL D cy A cells slots pc lv (.ref b :: st) M := by
  intro H locs ls hP hD hS hL
  refine va_slen G.1 G.2.1 hX hbl hbA hS hd ?_
  have := kk H locs ls hP hD hS hL
  rw [qI_nI] at this
  exact this
end SLD
/-- the clock's state is σ1, the reference's is σ -/
def LHf (M : qM) (ad : Nat → Nat) (mo qa qb qc qf qt ou : Nat) (σ σ1 : qS) : Prop := CSt M ad ∧ CDy σ1 ad (mI M) (mL M) (mR M) ∧ qMO M mo qa qb qc qf qt ∧ RMd σ (mI M) (mL M) mo qa qb qc qf qt ∧ qAr M ou 7 1 ∧ (∀ r, r < 81 → mo ≠ ad r ∧ qa ≠ ad r ∧ qb ≠ ad r ∧ qc ≠ ad r ∧ qf ≠ ad r ∧ qt ≠ ad r ∧ ou ≠ ad r) ∧ (ou ≠ mo ∧ ou ≠ qa ∧ ou ≠ qb ∧ ou ≠ qc ∧ ou ≠ qf ∧ ou ≠ qt)
section LHS
variable {M M1 : qM} {ad : Nat → Nat} {mo qa qb qc qf qt ou : Nat} {σ σ1 : qS}
theorem RMd_c {I L I' L' : Nat → Nat → Int} (h : RMd σ I L mo qa qb qc qf qt) (i1 : I' mo = I mo) (i2 : I' qf = I qf) (i3 : I' qt = I qt) (l1 : L' mo = L mo) (l2 : L' qa = L qa) (l3 : L' qb = L qb) (l4 : L' qc = L qc) : RMd σ I' L' mo qa qb qc qf qt := by
  have hg : ∀ k, gM L' qa qb qc k = gM L qa qb qc k := fun k => by unfold gM; rw [l2, l3, l4]
  obtain ⟨⟨a1, a2, a3, a4, a5, a6⟩, b, c, d, e⟩ := h
  refine ⟨⟨by rw [l1]; exact a1, by rw [i1]; exact a2, by rw [i1]; exact a3, by rw [i1]; exact a4, by rw [i1]; exact a5, by rw [i1]; exact a6⟩, fun k hk => (hg k).trans (b k hk), fun j hj => by rw [i2]; exact c j hj, fun j hj => by rw [i3]; exact d j hj, fun h9 => by rw [hg, hg]; exact e h9⟩
theorem LH_w (h : LHf M ad mo qa qb qc qf qt ou σ σ) (hp : poC M ad σ1 (fun _ => True) none M1) : LHf M1 ad mo qa qb qc qf qt ou σ σ1 := by
  obtain ⟨hC, hY, hMO, hR, ho, hd, hn⟩ := h
  obtain ⟨I, L, R, rfl, hf, hC1, hY1, -⟩ := hp
  have f := fun b (hb : ∀ r, r < 81 → b ≠ ad r) => hf b hb
  have fm := f mo (fun r hr => (hd r hr).1)
  have fa := f qa (fun r hr => (hd r hr).2.1)
  have fb := f qb (fun r hr => (hd r hr).2.2.1)
  have fc := f qc (fun r hr => (hd r hr).2.2.2.1)
  have ff := f qf (fun r hr => (hd r hr).2.2.2.2.1)
  have ft := f qt (fun r hr => (hd r hr).2.2.2.2.2.1)
  obtain ⟨m1, ⟨r1, r2, r3, r4, r5⟩, m3, m4⟩ := hMO
  refine ⟨hC1, hY1, ⟨m1, ⟨?_, ?_, ?_, ?_, ?_⟩, m3, m4⟩, RMd_c hR fm.1 ff.1 ft.1 fm.2.1 fa.2.1 fb.2.1 fc.2.1, ho, hd, hn⟩
  · show R mo 2 = _; rw [fm.2.2]; exact r1
  · show R mo 3 = _; rw [fm.2.2]; exact r2
  · show R mo 4 = _; rw [fm.2.2]; exact r3
  · show R mo 5 = _; rw [fm.2.2]; exact r4
  · show R mo 8 = _; rw [fm.2.2]; exact r5
theorem CD_L {I L L' : Nat → Nat → Int} {R : Nat → Nat → Option Nat} (hW : WF σ) (h : CDy σ ad I L R) (hl : ∀ r, r < 81 → L' (ad r) = L (ad r)) : CDy σ ad I L' R := by
  obtain ⟨a, b, c, d, e, f, g⟩ := h
  have hg : ∀ r, r < 81 → gT L' (ad r) = gT L (ad r) := fun r hr => by unfold gT; rw [hl r hr]
  exact ⟨a, fun h9 => by rw [hg 2 (by decide), hg 3 (by decide)]; exact b h9, c, fun k hk => (hg _ (fr_lt hW hk).2).trans (d k hk), e, f, g⟩
theorem LH_o (hW : WF σ1) (h : LHf M ad mo qa qb qc qf qt ou σ σ1) (k : Nat) (v : Int) : LHf (sL M ou k v) ad mo qa qb qc qf qt ou σ σ1 := by
  obtain ⟨hC, hY, hMO, hR, ho, hd, ⟨n1, n2, n3, n4, n5, n6⟩⟩ := h
  exact ⟨hC, CD_L hW hY (fun r hr => up2_row _ _ (Ne.symm (hd r hr).2.2.2.2.2.2)), hMO, RMd_c hR rfl rfl rfl (up2_row _ _ (Ne.symm n1)) (up2_row _ _ (Ne.symm n2)) (up2_row _ _ (Ne.symm n3)) (up2_row _ _ (Ne.symm n4)), ho, hd, ⟨n1, n2, n3, n4, n5, n6⟩⟩
theorem CD_I {I L I' : Nat → Nat → Int} {R : Nat → Nat → Option Nat} (hW : WF σ) (h : CDy σ ad I L R) (hl : ∀ r, r < 81 → I' (ad r) = I (ad r)) : CDy σ ad I' L R := by
  obtain ⟨⟨a1, a2, a3⟩, b, c, d, e, f, g⟩ := h
  have hB := hW.2.1
  have hB1 := hB.1
  have hB2 := hB.2.1
  refine ⟨⟨by rw [hl 0 (by decide)]; exact a1, by rw [hl 0 (by decide)]; exact a2, a3⟩, fun h9 => ⟨by rw [hl 1 (by decide)]; exact (b h9).1, (b h9).2⟩, fun j hj => by rw [hl 13 (by decide)]; exact c j hj, d, fun i hi => by rw [hl (14 + i) (by omega)]; exact e i hi, fun h9 => ?_, fun h9 => by rw [hl 1 (by decide)]; exact g h9⟩
  have hlt := hB.2.2 h9
  rw [hl (rnN σ) (by unfold rnN; omega)]; exact f h9
theorem LH_r (hW : WF σ1) (h : LHf M ad mo qa qb qc qf qt ou σ σ1) {I L : Nat → Nat → Int} (hf : frR (mI M) (mL M) I L mo qa qb qc qf qt) (hR1 : RMd σ1 I L mo qa qb qc qf qt) : LHf (wI M I L) ad mo qa qb qc qf qt ou σ1 σ1 := by
  obtain ⟨hC, hY, hMO, hR, ho, hd, hn⟩ := h
  refine ⟨hC, CD_L hW (CD_I hW hY (fun r hr => hf.1 (ad r) (Ne.symm (hd r hr).1) (Ne.symm (hd r hr).2.2.2.2.1) (Ne.symm (hd r hr).2.2.2.2.2.1))) (fun r hr => hf.2 (ad r) (Ne.symm (hd r hr).1) (Ne.symm (hd r hr).2.1) (Ne.symm (hd r hr).2.2.1) (Ne.symm (hd r hr).2.2.2.1)), hMO, hR1, ho, hd, hn⟩
theorem LH_ou (h : LHf M ad mo qa qb qc qf qt ou σ σ1) {I L : Nat → Nat → Int} (hf : frR (mI M) (mL M) I L mo qa qb qc qf qt) : L ou = mL M ou := by
  obtain ⟨-, -, -, -, -, -, ⟨n1, n2, n3, n4, n5, n6⟩⟩ := h
  exact hf.2 ou n1 n2 n3 n4
end LHS
