/-! products and powers as functions -/
abbrev qT3 : Type := Int × Int × Int
def gT (L : Nat → Nat → Int) (a : Nat) : qT3 := (L a 0, L a 1, L a 2)
theorem gT_eq {L L' : Nat → Nat → Int} {a : Nat} (h : ∀ k, L' a k = L a k) : gT L' a = gT L a := by unfold gT; rw [h, h, h]
theorem gT_stF (L : Nat → Nat → Int) (a : Nat) (x y z : Int) : gT (stF L a x y z) a = (x, y, z) := by unfold gT; rw [stF_0, stF_1, stF_2]
theorem gT_stF_n (L : Nat → Nat → Int) {a b : Nat} (x y z : Int) (h : b ≠ a) : gT (stF L a x y z) b = gT L b := gT_eq (fun k => stF_n L x y z h k)
abbrev rdT (t : qT3) : Prop := isRd t.1 t.2.1 t.2.2
/-- a form of the discriminant -d, of a size that longs bear -/
def gd (d : Int) (t : qT3) : Prop := sOk d t.1 t.2.1 t.2.2 ∧ fPr t.1 t.2.1 t.2.2
def mlT (f g t : qT3) : Prop := isMul f.1 f.2.1 f.2.2 g.1 g.2.1 g.2.2 t.1 t.2.1 t.2.2
noncomputable def mulT (f g : qT3) : qT3 := Classical.epsilon (fun t => mlT f g t)
theorem mlT_unique {d : Int} {f g t t' : qT3} (hf : gd d f) (h : mlT f g t) (h' : mlT f g t') : t = t' := by
  obtain ⟨e1, e2, e3⟩ := isMul_unique hf.2 h h'
  obtain ⟨x, y, z⟩ := t
  obtain ⟨x', y', z'⟩ := t'
  simp only at e1 e2 e3
  rw [e1, e2, e3]
theorem mulT_eq {d : Int} {f g t : qT3} (hf : gd d f) (h : mlT f g t) : mulT f g = t :=
  mlT_unique hf (Classical.epsilon_spec (p := fun t => mlT f g t) ⟨t, h⟩) h
theorem mlT_good {d : Int} {f g t : qT3} (hd : dOk d) (hf : gd d f) (hg : gd d g) (h : mlT f g t) : gd d t ∧ rdT t := by
  obtain ⟨h1, h2⟩ := isMul_good h hf.2 hg.2
  have hr := h.1
  have hp := h.2.1
  exact ⟨⟨sOk_rd hd.2.1 hp hr (h2.trans hf.1.2.1), h1⟩, hr⟩
/-- a power, from its lowest bit on -/
noncomputable def pwN : Nat → Nat → qT3 → qT3 → qT3
  | 0, _, _, s => s
  | k + 1, n, b, s => if n = 0 then s else pwN k (n / 2) (mulT b b) (if n % 2 = 1 then mulT s b else s)
noncomputable def powT (un f : qT3) (n : Int) : qT3 := pwN 32 n.toNat f un
def unT (d : Int) : qT3 := (1, 1, (1 + d) / 4)
theorem qI_nI {n : Nat} : qI (n : Int) = nI n := Int32.ofInt_eq_ofNat
theorem qand_1 {x : Int} (h : 0 ≤ x) (h2 : x < 2147483648) : qand x 1 = x % 2 := by
  obtain ⟨n, rfl⟩ : ∃ n : Nat, x = n := ⟨x.toNat, by omega⟩
  unfold qand
  rw [qI_nI]
  have e := pk_andN (n := n) (by omega) (m := qI 1) 1 (by decide)
  rw [e, nI_toInt (by omega)]; omega
theorem qshr_1 {x : Int} (h : 0 ≤ x) (h2 : x < 2147483648) : qshr x 1 = x / 2 := by
  obtain ⟨n, rfl⟩ : ∃ n : Nat, x = n := ⟨x.toNat, by omega⟩
  unfold qshr
  rw [qI_nI]
  have e := pk_shrN (n := n) (by omega) (qI 1 &&& 31) 1 (by decide)
  rw [e, nI_toInt (by omega)]; omega
theorem unT_ok {d : Int} (hd : dOk d) : 4 * ((1 + d) / 4) = 1 + d ∧ 0 < (1 + d) / 4 := by
  obtain ⟨h1, h2, h3⟩ := hd
  omega
theorem unT_gd {d : Int} (hd : dOk d) : gd d (unT d) ∧ rdT (unT d) := by
  have h := unT_ok hd
  obtain ⟨h1, h2, h3⟩ := hd
  refine ⟨⟨⟨by show (0 : Int) < 1; decide, ?_, by show (1 : Int) ≤ 2147483648; decide, by show (-2305843009213693952 : Int) ≤ 1 ∧ (1 : Int) ≤ 2305843009213693952; decide, ?_⟩, ⟨1, 0, 0, by show 1 * 1 + 0 * 1 + 0 * _ = (1 : Int); omega⟩⟩, ?_⟩
  · show (1 : Int) * 1 - 4 * 1 * ((1 + d) / 4) = -d
    omega
  · show (1 + d) / 4 ≤ _
    omega
  · show -(1 : Int) < 1 ∧ (1 : Int) ≤ 1 ∧ 1 ≤ (1 + d) / 4 ∧ (1 = (1 + d) / 4 → (0 : Int) ≤ 1)
    omega
theorem gT_e {L : Nat → Nat → Int} {a : Nat} {x y z : Int} (h0 : L a 0 = x) (h1 : L a 1 = y) (h2 : L a 2 = z) : gT L a = (x, y, z) := by unfold gT; rw [h0, h1, h2]
/-- the product's contract, by functions -/
def po_prodT (M : qM) (lf rg eu : Nat) (f g res : Nat) (d : Int) : Option Value → qM → Prop := fun v M' => v = none ∧ ∃ L, M' = wL M L ∧ (∀ b k, b ≠ lf → b ≠ rg → b ≠ eu → b ≠ res → L b k = mL M b k) ∧ gT L res = mulT (gT (mL M) f) (gT (mL M) g) ∧ gd d (gT L res) ∧ rdT (gT L res)
theorem c_prodT (l : Launch) (D : va_G) (cy : Nat → ClassId) (M : qM) (fo un ge eu lf rg ba so on ot : Nat) (hFO : qFO M fo un ge eu lf rg ba so on ot) (hd : dOk (mI M fo 0)) (f g res : Nat) (hf : qO M f 1) (hg : qO M g 1) (hr : qO M res 1) (ngl : g ≠ lf) (gf : gd (mI M fo 0) (gT (mL M) f)) (gg : gd (mI M fo 0) (gT (mL M) g)) :
    qCt l D cy yX2_product cX2_product 16 none { frames := 3, cells := 0, slots := 0, locals := 68 } 0 0 [.ref fo, .ref f, .ref g, .ref res] M (po_prodT M lf rg eu f g res (mI M fo 0)) := by
  refine qCt_post (c_X2_product l D cy M fo un ge eu lf rg ba so on ot hFO hd f g res hf hg hr ngl gf.1 gg.1) ?_
  rintro v M' ⟨h1, L, x, y, z, h2, h3, h4, h5, h6, h7⟩
  have h8 : mlT (gT (mL M) f) (gT (mL M) g) (x, y, z) := h7
  have h9 := mlT_good hd gf gg h8
  refine ⟨h1, L, h2, h3, ?_⟩
  rw [gT_e h4 h5 h6]
  exact ⟨(mulT_eq gf h8).symm, h9.1, h9.2⟩
