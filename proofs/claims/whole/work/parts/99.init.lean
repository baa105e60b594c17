/-! objects in the making -/
def Stg (M : qM) (ad : Nat → Nat) (T : Nat → Prop) (E : Nat → Nat → Nat → Prop) : Prop := (∀ r, T r → ad r ∈ mP M ∧ mK M (ad r) = kdN r) ∧ (∀ r s, T r → T s → ad r = ad s → r = s) ∧ (∀ r k t, E r k t → T r ∧ T t ∧ mR M (ad r) k = some (ad t))
def FrE (M0 M : qM) (x : Nat) : Prop := ∀ b, b ∈ mP M0 → b ∈ mP M ∧ mK M b = mK M0 b ∧ mN M b = mN M0 b ∧ (b ≠ x → mI M b = mI M0 b ∧ mL M b = mL M0 b ∧ mR M b = mR M0 b)
section STG
variable {M M' M0 : qM} {ad : Nat → Nat} {T T' : Nat → Prop} {E E' : Nat → Nat → Nat → Prop} {x q : Nat}
theorem sN_o {ki n b : Nat} (h : b ≠ q) : mK (sN M q ki n) b = mK M b ∧ mN (sN M q ki n) b = mN M b ∧ mI (sN M q ki n) b = mI M b ∧ mL (sN M q ki n) b = mL M b ∧ mR (sN M q ki n) b = mR M b := ⟨va_up_ne _ _ h, va_up_ne _ _ h, va_up_ne _ _ h, va_up_ne _ _ h, va_up_ne _ _ h⟩
theorem qO_new {ki n : Nat} : qO (sN M q ki n) q ki := ⟨List.mem_append_right _ (List.mem_singleton.mpr rfl), sN_k⟩
theorem qO_old {ki n k a : Nat} (hq : q ∉ mP M) (h : qO M a k) : qO (sN M q ki n) a k := ⟨List.mem_append_left _ h.1, (sN_o (b := a) (fun h9 => hq (by rw [← h9]; exact h.1))).1.trans h.2⟩
theorem Stg_eq (h : Stg M ad T E) (hT : ∀ r, T r ↔ T' r) (hE : ∀ r k t, E' r k t → E r k t) : Stg M ad T' E' := ⟨fun r hr => h.1 r ((hT r).mpr hr), fun r s hr hs => h.2.1 r s ((hT r).mpr hr) ((hT s).mpr hs), fun r k t he => by
  obtain ⟨a, b, c⟩ := h.2.2 r k t (hE r k t he); exact ⟨(hT r).mp a, (hT t).mp b, c⟩⟩
theorem Stg_new {r1 n : Nat} (h : Stg M ad T E) (hq : q ∉ mP M) (h1 : ¬ T r1) : Stg (sN M q (kdN r1) n) (up1 ad r1 q) (fun r => T r ∨ r = r1) E := by
  have hne : ∀ r, T r → r ≠ r1 := fun r hr h9 => h1 (h9 ▸ hr)
  have had : ∀ r, T r → up1 ad r1 q r = ad r := fun r hr => up1_n _ _ (hne r hr)
  have hnq : ∀ r, T r → ad r ≠ q := fun r hr h9 => hq (h9 ▸ (h.1 r hr).1)
  refine ⟨fun r hr => ?_, fun r s hr hs he => ?_, fun r k t he => ?_⟩
  · rcases hr with hr | rfl
    · rw [had r hr]; exact ⟨List.mem_append_left _ (h.1 r hr).1, (sN_o (hnq r hr)).1.trans (h.1 r hr).2⟩
    · rw [up1_s]; exact ⟨List.mem_append_right _ (List.mem_singleton.mpr rfl), sN_k⟩
  · rcases hr with hr | rfl <;> rcases hs with hs | rfl
    · rw [had r hr, had s hs] at he; exact h.2.1 r s hr hs he
    · rw [had r hr, up1_s] at he; exact absurd he (hnq r hr)
    · rw [had s hs, up1_s] at he; exact absurd he.symm (hnq s hs)
    · rfl
  · obtain ⟨a, b, c⟩ := h.2.2 r k t he
    refine ⟨Or.inl a, Or.inl b, ?_⟩
    rw [had r a, had t b, (sN_o (hnq r a)).2.2.2.2]; exact c
theorem Stg_R {r k t : Nat} (h : Stg M ad T E) (hr : T r) (ht : T t) (hk : ∀ t', ¬ E r k t') : Stg (sR M (ad r) k (some (ad t))) ad T (fun r' k' t' => E r' k' t' ∨ (r' = r ∧ k' = k ∧ t' = t)) := by
  refine ⟨h.1, h.2.1, fun r' k' t' he => ?_⟩
  rcases he with he | ⟨rfl, rfl, rfl⟩
  · obtain ⟨a, b, c⟩ := h.2.2 r' k' t' he
    refine ⟨a, b, (up2_n _ _ (fun h9 => ?_)).trans c⟩
    have := h.2.1 r' r a hr h9.1
    rw [this, h9.2] at he; exact hk t' he
  · exact ⟨hr, ht, up2_s _ _ _ _⟩
/-- a call that writes one object without edges yet, and makes others -/
theorem Stg_fr {r : Nat} (h : Stg M ad T E) (hr : T r) (hk : ∀ k t, ¬ E r k t) (hf : FrE M M' (ad r)) : Stg M' ad T E := by
  refine ⟨fun s hs => ⟨(hf _ (h.1 s hs).1).1, (hf _ (h.1 s hs).1).2.1.trans (h.1 s hs).2⟩, h.2.1, fun s k t he => ?_⟩
  obtain ⟨a, b, c⟩ := h.2.2 s k t he
  refine ⟨a, b, ?_⟩
  rw [((hf _ (h.1 s a).1).2.2.2 (fun h9 => by have := h.2.1 s r a hr h9; rw [this] at he; exact hk k t he)).2.2]; exact c
theorem FrE_rf : FrE M M x := fun b hb => ⟨hb, rfl, rfl, fun _ => ⟨rfl, rfl, rfl⟩⟩
theorem FrE_tr (h : FrE M0 M x) (h' : FrE M M' x) : FrE M0 M' x := fun b hb => by
  obtain ⟨a1, a2, a3, a4⟩ := h b hb
  obtain ⟨b1, b2, b3, b4⟩ := h' b a1
  exact ⟨b1, b2.trans a2, b3.trans a3, fun hx => ⟨(b4 hx).1.trans (a4 hx).1, (b4 hx).2.1.trans (a4 hx).2.1, (b4 hx).2.2.trans (a4 hx).2.2⟩⟩
theorem FrE_new {ki n : Nat} (hq : q ∉ mP M) : FrE M (sN M q ki n) x := fun b hb => by
  have hb2 : b ≠ q := fun h9 => hq (h9 ▸ hb)
  obtain ⟨a1, a2, a3, a4, a5⟩ := sN_o (M := M) (ki := ki) (n := n) hb2
  exact ⟨List.mem_append_left _ hb, a1, a2, fun _ => ⟨a3, a4, a5⟩⟩
theorem FrE_R (k : Nat) (v : Option Nat) : FrE M (sR M x k v) x := fun b hb => ⟨hb, rfl, rfl, fun hx => ⟨rfl, rfl, up2_row _ _ hx⟩⟩
theorem FrE_I (k : Nat) (v : Int) : FrE M (sI M x k v) x := fun b hb => ⟨hb, rfl, rfl, fun hx => ⟨up2_row _ _ hx, rfl, rfl⟩⟩
/-- writes to an object that is not among the old -/
theorem FrE_F {a b c : Int} (hq : q ∉ mP M) {N : qM} (h : FrE M N x) : FrE M (wL N (stF (mL N) q a b c)) x := fun z hz => by
  obtain ⟨a1, a2, a3, a4⟩ := h z hz
  have hzq : z ≠ q := fun h9 => hq (h9 ▸ hz)
  exact ⟨a1, a2, a3, fun hx => ⟨(a4 hx).1, (funext (fun k => stF_n _ _ _ _ hzq k)).trans (a4 hx).2.1, (a4 hx).2.2⟩⟩
theorem FrE_x {y : Nat} (hq : y ∉ mP M) {N : qM} (h : FrE M N x) {N' : qM} (h' : FrE N N' y) : FrE M N' x := fun z hz => by
  obtain ⟨a1, a2, a3, a4⟩ := h z hz
  obtain ⟨b1, b2, b3, b4⟩ := h' z a1
  have hzq : z ≠ y := fun h9 => hq (h9 ▸ hz)
  exact ⟨b1, b2.trans a2, b3.trans a3, fun hx => ⟨(b4 hzq).1.trans (a4 hx).1, (b4 hzq).2.1.trans (a4 hx).2.1, (b4 hzq).2.2.trans (a4 hx).2.2⟩⟩
end STG
section ABS
variable {p : Program} {l : Launch} {e : Env} {R : Room} {s : State} {m : MethodId} {args : Array Value} {below : List Frame} {meth : Method} {c : Code} {Q : State → Prop} {nL : Nat} {D : va_G} {cy : Nat → ClassId} {A : Nat → Prop} {cells slots : Nat} {pc : Nat} {lv : List (Nat × Value)} {st : List Value} {M : qM}
theorem q_abs (P : qM → Prop) (h : P M) (kk : ∀ M', P M' → qK p l e R s m args below meth c Q nL D cy A cells slots pc lv st M') : qK p l e R s m args below meth c Q nL D cy A cells slots pc lv st M := kk M h
end ABS
set_option maxRecDepth 100000 in
set_option maxHeartbeats 4000000 in
theorem c_X1_init (l : Launch) (D : va_G) (cy : Nat → ClassId) (M : qM) (h : Nat) (hO : qO M h 1) : qCt l D cy yX1_init cX1_init 1 none { frames := 1, cells := 0, slots := 0, locals := 20 } 0 0 [.ref h] M (fun v M' => v = none ∧ M' = wL M (stF (mL M) h 1 1 1)) := by
  refine qCt_of (lv0 := [(0, .ref h)]) (by decide) rfl (Nat.le_of_ble_eq_true rfl) ?_
  intro p e s m args below meth c G hname hret
  refine q_aload_n G 0 0 dX1_init_0 rfl rfl ?_
  refine q_obj G dX1_init_1 tw_34 (by decide) (by decide) ?_
  refine q_aload_n G 0 0 dX1_init_4 rfl rfl ?_
  refine q_lconst (z := 1) G dX1_init_5 (by decide +kernel) ?_
  refine q_pL (z := 1) G dX1_init_6 (pl_X1_7 _) nf_1_0 hO (by decide) (Nat.le_of_ble_eq_true rfl) (fs_1_0 _ _ _) ?_
  refine q_aload_n G 0 0 dX1_init_9 rfl rfl ?_
  refine q_lconst (z := 1) G dX1_init_10 (by decide +kernel) ?_
  refine q_pL (z := 1) G dX1_init_11 (pl_X1_13 _) nf_1_1 hO (by decide) (Nat.le_of_ble_eq_true rfl) (fs_1_1 _ _ _) ?_
  refine q_aload_n G 0 0 dX1_init_14 rfl rfl ?_
  refine q_lconst (z := 1) G dX1_init_15 (by decide +kernel) ?_
  refine q_pL (z := 1) G dX1_init_16 (pl_X1_16 _) nf_1_2 hO (by decide) (Nat.le_of_ble_eq_true rfl) (fs_1_2 _ _ _) ?_
  exact q_vret G dX1_init_19 hret (by omega) (by omega) (⟨rfl, rfl⟩)
set_option maxRecDepth 100000 in
set_option maxHeartbeats 4000000 in
theorem c_X0_init (l : Launch) (D : va_G) (cy : Nat → ClassId) (M : qM) (h : Nat) (hO : qO M h 0) : qCt l D cy yX0_init cX0_init 1 none { frames := 1, cells := 0, slots := 0, locals := 20 } 0 0 [.ref h] M (fun v M' => v = none ∧ M' = M) := by
  refine qCt_of (lv0 := [(0, .ref h)]) (by decide) rfl (Nat.le_of_ble_eq_true rfl) ?_
  intro p e s m args below meth c G hname hret
  refine q_aload_n G 0 0 dX0_init_0 rfl rfl ?_
  refine q_obj G dX0_init_1 tw_55 (by decide) (by decide) ?_
  exact q_vret G dX0_init_4 hret (by omega) (by omega) (⟨rfl, rfl⟩)
def TK (T : Nat → Prop) (a k : Nat) : Nat → Prop := fun r => T r ∨ (a ≤ r ∧ r < a + k)
def EK (E : Nat → Nat → Nat → Prop) (r0 z0 a k : Nat) : Nat → Nat → Nat → Prop := fun r z t => E r z t ∨ (r = r0 ∧ z0 ≤ z ∧ z < z0 + k ∧ t = a + (z - z0))
def BK (M0 M : qM) (ad : Nat → Nat) (T : Nat → Prop) (E : Nat → Nat → Nat → Prop) (r0 z0 a k : Nat) (I0 : Nat → Int) : Prop := ∃ ad' : Nat → Nat, (∀ r, T r → ad' r = ad r) ∧ Stg M ad' (TK T a k) (EK E r0 z0 a k) ∧ FrE M0 M (ad r0) ∧ mI M (ad r0) = I0
theorem BK_0 {M0 M : qM} {ad : Nat → Nat} {T : Nat → Prop} {E : Nat → Nat → Nat → Prop} {r0 z0 a : Nat} (h : Stg M ad T E) (hf : FrE M0 M (ad r0)) : BK M0 M ad T E r0 z0 a 0 (mI M (ad r0)) :=
  ⟨ad, fun _ _ => rfl, Stg_eq h (fun r => ⟨fun h => Or.inl h, fun h => h.elim id (fun h => by omega)⟩) (fun r z t h => h.elim id (fun h => by omega)), hf, rfl⟩
theorem BK_s {M0 M : qM} {ad : Nat → Nat} {T : Nat → Prop} {E : Nat → Nat → Nat → Prop} {r0 z0 a k q ki : Nat} {I0 : Nat → Int} (h : BK M0 M ad T E r0 z0 a k I0) (hq : q ∉ mP M) (hT : T r0) (hO : ad r0 ∈ mP M) (hN : ¬ T (a + k)) (hE : ∀ z t, ¬ E r0 z t) (hk : kdN (a + k) = ki) {L : Nat → Nat → Int} (hL : ∀ b, b ≠ q → L b = mL (sN M q ki 0) b) : BK M0 (sR (wL (sN M q ki 0) L) (ad r0) (z0 + k) (some q)) ad T E r0 z0 a (k + 1) I0 := by
  obtain ⟨ad', hA, hS, hF, hI⟩ := h
  subst hk
  have hnk : ¬ TK T a k (a + k) := fun h9 => h9.elim hN (fun h8 => by omega)
  have t1 : Stg (wL (sN M q (kdN (a + k)) 0) L) (up1 ad' (a + k) q) (fun r => TK T a k r ∨ r = a + k) (EK E r0 z0 a k) := Stg_new (n := 0) hS hq hnk
  have hr : r0 ≠ a + k := fun h9 => hN (h9 ▸ hT)
  have e1 : up1 ad' (a + k) q r0 = ad r0 := (up1_n _ _ hr).trans (hA r0 hT)
  have t2 := Stg_R (k := z0 + k) (r := r0) (t := a + k) t1 (Or.inl (Or.inl hT)) (Or.inr rfl) (fun t' h9 => h9.elim (hE _ _) (fun h8 => by omega))
  rw [e1, up1_s] at t2
  refine ⟨up1 ad' (a + k) q, fun r h1 => (up1_n (b := r) _ _ (fun h9 => hN (by rw [← h9]; exact h1))).trans (hA r h1), Stg_eq t2 (fun r => ?_) (fun r z t => ?_), ?_, ?_⟩
  · constructor
    · rintro ((h9 | h9) | h9)
      · exact Or.inl h9
      · exact Or.inr (by omega)
      · exact Or.inr (by omega)
    · rintro (h9 | h9)
      · exact Or.inl (Or.inl h9)
      · by_cases h8 : r = a + k
        · exact Or.inr h8
        · exact Or.inl (Or.inr (by omega))
  · rintro (h9 | h9)
    · exact Or.inl (Or.inl h9)
    · by_cases h8 : z = z0 + k
      · exact Or.inr (by omega)
      · exact Or.inl (Or.inr (by omega))
  · intro b hb
    obtain ⟨a1, a2, a3, a4⟩ := hF b hb
    have hbq : b ≠ q := fun h9 => hq (h9 ▸ a1)
    obtain ⟨b1, b2, b3, b4, b5⟩ := sN_o (M := M) (ki := kdN (a + k)) (n := 0) hbq
    exact ⟨List.mem_append_left _ a1, b1.trans a2, b2.trans a3, fun hx => ⟨b3.trans (a4 hx).1, ((hL b hbq).trans b4).trans (a4 hx).2.1, (up2_row _ _ hx).trans (b5.trans (a4 hx).2.2)⟩⟩
  · exact (sN_o (b := ad r0) (ki := kdN (a + k)) (n := 0) (fun h9 => hq (by rw [← h9]; exact hO))).2.2.1.trans hI
theorem BK_o {M0 M : qM} {ad : Nat → Nat} {T : Nat → Prop} {E : Nat → Nat → Nat → Prop} {r0 z0 a k ki : Nat} {I0 : Nat → Int} (h : BK M0 M ad T E r0 z0 a k I0) (hO : qO M0 (ad r0) ki) : qO M (ad r0) ki := by
  obtain ⟨-, -, -, hF, -⟩ := h
  exact ⟨(hF _ hO.1).1, (hF _ hO.1).2.1.trans hO.2⟩
def poRd (M : qM) (ad : Nat → Nat) (T : Nat → Prop) (E : Nat → Nat → Nat → Prop) (r0 z0 a k : Nat) (I0 : Nat → Int) : Option Value → qM → Prop := fun v M' => v = none ∧ BK M M' ad T E r0 z0 a k I0
set_option maxRecDepth 100000 in
set_option maxHeartbeats 4000000 in
theorem c_X3_init (l : Launch) (D : va_G) (cy : Nat → ClassId) (M : qM) (ad : Nat → Nat) (T : Nat → Prop) (E : Nat → Nat → Nat → Prop) (S0 : Stg M ad T E) (i : Nat) (hi : i < 16) (hT : T (14 + i)) (hE : ∀ k t, ¬ E (14 + i) k t) (hN : ∀ k, k < 3 → ¬ T (30 + 3 * i + k)) (hO : qO M (ad (14 + i)) 3) : qCt l D cy yX3_init cX3_init 1 none { frames := 2, cells := 3, slots := 9, locals := 40 } 3 9 [.ref (ad (14 + i))] M (poRd M ad T E (14 + i) 6 (30 + 3 * i) 3 (mI M (ad (14 + i)))) := by
  refine qCt_of (lv0 := [(0, .ref (ad (14 + i)))]) (by decide) rfl (Nat.le_of_ble_eq_true rfl) ?_
  intro p e s m args below meth c G hname hret
  have oh_0 := id hO
  have b0 : BK M M ad T E (14 + i) 6 (30 + 3 * i) 0 (mI M (ad (14 + i))) := BK_0 S0 FrE_rf
  refine q_aload_n G 0 0 dX3_init_0 rfl rfl ?_
  refine q_obj G dX3_init_1 tw_109 (by decide) (by decide) ?_
  refine q_aload_n G 0 0 dX3_init_4 rfl rfl ?_
  refine q_new_1 G dX3_init_5 (by decide +kernel) (by dsimp only; omega) (by dsimp only; omega) (fun f0 hf0 => ?_)
  have of0 : qO (sN (M) f0 1 0) f0 1 := qO_new
  have ohf0 : qO (sN (M) f0 1 0) (ad (14 + i)) 3 := qO_old hf0 oh_0
  refine q_dup G dX3_init_8 rfl ?_
  refine q_callI (As := []) (rest := [.ref f0, .ref (ad (14 + i))]) G dX3_init_9 cw_X3_9 (c_X1_init l D cy (sN (M) f0 1 0) f0 of0) rfl rfl (Nat.le_of_ble_eq_true rfl) rfl rfl ⟨Nat.le_of_ble_eq_true rfl, Nat.le_of_ble_eq_true rfl⟩ ⟨by decide, by decide⟩ (fun v9 M9 hq9 => ?_)
  obtain ⟨rfl, e9⟩ := hq9
  refine q_mem e9 ?_
  refine q_st (st2 := [.ref f0, .ref (ad (14 + i))]) rfl ?_
  refine q_pR (z := some f0) G dX3_init_12 (pl_X3_10 _) (fun _ _ _ _ _ => hname) ohf0 (by decide) (Nat.le_of_ble_eq_true rfl) (fs_3_6 _ _ _) ?_
  have b1x : BK M (sR (wL (sN (M) f0 1 0) (stF (mL (sN (M) f0 1 0)) f0 1 1 1)) (ad (14 + i)) 6 (some f0)) ad T E (14 + i) 6 (30 + 3 * i) 1 (mI M (ad (14 + i))) := BK_s (k := 0) b0 hf0 hT oh_0.1 (hN 0 (by decide)) hE (by unfold kdN; repeat rw [if_neg (by omega)]) (fun b hb => funext (fun x => stF_n _ _ _ _ hb x))
  refine q_abs (fun M9 => BK M M9 ad T E (14 + i) 6 (30 + 3 * i) 1 (mI M (ad (14 + i)))) b1x ?_
  intro M1 b1
  clear b1x b0 hf0
  have oh_1 : qO M1 (ad (14 + i)) 3 := BK_o b1 hO
  refine q_aload_n G 0 0 dX3_init_15 rfl rfl ?_
  refine q_new_1 G dX3_init_16 (by decide +kernel) (by dsimp only; omega) (by dsimp only; omega) (fun f1 hf1 => ?_)
  have of1 : qO (sN (M1) f1 1 0) f1 1 := qO_new
  have ohf1 : qO (sN (M1) f1 1 0) (ad (14 + i)) 3 := qO_old hf1 oh_1
  refine q_dup G dX3_init_19 rfl ?_
  refine q_callI (As := []) (rest := [.ref f1, .ref (ad (14 + i))]) G dX3_init_20 cw_X3_9 (c_X1_init l D cy (sN (M1) f1 1 0) f1 of1) rfl rfl (Nat.le_of_ble_eq_true rfl) rfl rfl ⟨Nat.le_of_ble_eq_true rfl, Nat.le_of_ble_eq_true rfl⟩ ⟨by decide, by decide⟩ (fun v9 M9 hq9 => ?_)
  obtain ⟨rfl, e9⟩ := hq9
  refine q_mem e9 ?_
  refine q_st (st2 := [.ref f1, .ref (ad (14 + i))]) rfl ?_
  refine q_pR (z := some f1) G dX3_init_23 (pl_X3_16 _) (fun _ _ _ _ _ => hname) ohf1 (by decide) (Nat.le_of_ble_eq_true rfl) (fs_3_7 _ _ _) ?_
  have b2x : BK M (sR (wL (sN (M1) f1 1 0) (stF (mL (sN (M1) f1 1 0)) f1 1 1 1)) (ad (14 + i)) 7 (some f1)) ad T E (14 + i) 6 (30 + 3 * i) 2 (mI M (ad (14 + i))) := BK_s (k := 1) b1 hf1 hT oh_1.1 (hN 1 (by decide)) hE (by unfold kdN; repeat rw [if_neg (by omega)]) (fun b hb => funext (fun x => stF_n _ _ _ _ hb x))
  refine q_abs (fun M9 => BK M M9 ad T E (14 + i) 6 (30 + 3 * i) 2 (mI M (ad (14 + i)))) b2x ?_
  intro M2 b2
  clear b2x b1 hf1
  have oh_2 : qO M2 (ad (14 + i)) 3 := BK_o b2 hO
  refine q_aload_n G 0 0 dX3_init_26 rfl rfl ?_
  refine q_new_1 G dX3_init_27 (by decide +kernel) (by dsimp only; omega) (by dsimp only; omega) (fun f2 hf2 => ?_)
  have of2 : qO (sN (M2) f2 1 0) f2 1 := qO_new
  have ohf2 : qO (sN (M2) f2 1 0) (ad (14 + i)) 3 := qO_old hf2 oh_2
  refine q_dup G dX3_init_30 rfl ?_
  refine q_callI (As := []) (rest := [.ref f2, .ref (ad (14 + i))]) G dX3_init_31 cw_X3_9 (c_X1_init l D cy (sN (M2) f2 1 0) f2 of2) rfl rfl (Nat.le_of_ble_eq_true rfl) rfl rfl ⟨Nat.le_of_ble_eq_true rfl, Nat.le_of_ble_eq_true rfl⟩ ⟨by decide, by decide⟩ (fun v9 M9 hq9 => ?_)
  obtain ⟨rfl, e9⟩ := hq9
  refine q_mem e9 ?_
  refine q_st (st2 := [.ref f2, .ref (ad (14 + i))]) rfl ?_
  refine q_pR (z := some f2) G dX3_init_34 (pl_X3_19 _) (fun _ _ _ _ _ => hname) ohf2 (by decide) (Nat.le_of_ble_eq_true rfl) (fs_3_8 _ _ _) ?_
  have b3x : BK M (sR (wL (sN (M2) f2 1 0) (stF (mL (sN (M2) f2 1 0)) f2 1 1 1)) (ad (14 + i)) 8 (some f2)) ad T E (14 + i) 6 (30 + 3 * i) 3 (mI M (ad (14 + i))) := BK_s (k := 2) b2 hf2 hT oh_2.1 (hN 2 (by decide)) hE (by unfold kdN; repeat rw [if_neg (by omega)]) (fun b hb => funext (fun x => stF_n _ _ _ _ hb x))
  refine q_abs (fun M9 => BK M M9 ad T E (14 + i) 6 (30 + 3 * i) 3 (mI M (ad (14 + i)))) b3x ?_
  intro M3 b3
  clear b3x b2 hf2
  have oh_3 : qO M3 (ad (14 + i)) 3 := BK_o b3 hO
  exact q_vret G dX3_init_37 hret (by omega) (by omega) (⟨rfl, b3⟩)
set_option maxRecDepth 100000 in
set_option maxHeartbeats 4000000 in
theorem c_X2_init (l : Launch) (D : va_G) (cy : Nat → ClassId) (M : qM) (ad : Nat → Nat) (T : Nat → Prop) (E : Nat → Nat → Nat → Prop) (S0 : Stg M ad T E) (hT : T 1) (hE : ∀ k t, ¬ E 1 k t) (hN : ∀ k, k < 9 → ¬ T (2 + k)) (hO : qO M (ad 1) 2) : qCt l D cy yX2_init cX2_init 1 none { frames := 2, cells := 9, slots := 27, locals := 40 } 9 27 [.ref (ad 1)] M (poRd M ad T E 1 1 2 9 (up2 (mI M) (ad 1) 0 7 (ad 1))) := by
  refine qCt_of (lv0 := [(0, .ref (ad 1))]) (by decide) rfl (Nat.le_of_ble_eq_true rfl) ?_
  intro p e s m args below meth c G hname hret
  refine q_aload_n G 0 0 dX2_init_0 rfl rfl ?_
  refine q_obj G dX2_init_1 tw_28 (by decide) (by decide) ?_
  refine q_aload_n G 0 0 dX2_init_4 rfl rfl ?_
  refine q_bipush G dX2_init_5 (by decide +kernel) ?_
  refine q_pI (z := 7) G dX2_init_7 (pl_X2_9 _) nf_2_0 hO (by decide) (Nat.le_of_ble_eq_true rfl) (fs_2_0 _ _ _) ?_
  have b0x : BK M (sI M (ad 1) 0 7) ad T E 1 1 2 0 (up2 (mI M) (ad 1) 0 7 (ad 1)) := BK_0 (M := sI M (ad 1) 0 7) S0 (FrE_I _ _)
  refine q_abs (fun M9 => BK M M9 ad T E 1 1 2 0 (up2 (mI M) (ad 1) 0 7 (ad 1))) b0x ?_
  intro M0 b0
  clear b0x
  have oh_0 : qO M0 (ad 1) 2 := BK_o b0 hO
  refine q_aload_n G 0 0 dX2_init_10 rfl rfl ?_
  refine q_new_1 G dX2_init_11 (by decide +kernel) (by dsimp only; omega) (by dsimp only; omega) (fun f0 hf0 => ?_)
  have of0 : qO (sN (M0) f0 1 0) f0 1 := qO_new
  have ohf0 : qO (sN (M0) f0 1 0) (ad 1) 2 := qO_old hf0 oh_0
  refine q_dup G dX2_init_14 rfl ?_
  refine q_callI (As := []) (rest := [.ref f0, .ref (ad 1)]) G dX2_init_15 cw_X2_17 (c_X1_init l D cy (sN (M0) f0 1 0) f0 of0) rfl rfl (Nat.le_of_ble_eq_true rfl) rfl rfl ⟨Nat.le_of_ble_eq_true rfl, Nat.le_of_ble_eq_true rfl⟩ ⟨by decide, by decide⟩ (fun v9 M9 hq9 => ?_)
  obtain ⟨rfl, e9⟩ := hq9
  refine q_mem e9 ?_
  refine q_st (st2 := [.ref f0, .ref (ad 1)]) rfl ?_
  refine q_pR (z := some f0) G dX2_init_18 (pl_X2_18 _) (fun _ _ _ _ _ => hname) ohf0 (by decide) (Nat.le_of_ble_eq_true rfl) (fs_2_1 _ _ _) ?_
  have b1x : BK M (sR (wL (sN (M0) f0 1 0) (stF (mL (sN (M0) f0 1 0)) f0 1 1 1)) (ad 1) 1 (some f0)) ad T E 1 1 2 1 (up2 (mI M) (ad 1) 0 7 (ad 1)) := BK_s (k := 0) b0 hf0 hT oh_0.1 (hN 0 (by decide)) hE (by decide) (fun b hb => funext (fun x => stF_n _ _ _ _ hb x))
  refine q_abs (fun M9 => BK M M9 ad T E 1 1 2 1 (up2 (mI M) (ad 1) 0 7 (ad 1))) b1x ?_
  intro M1 b1
  clear b1x b0 hf0
  have oh_1 : qO M1 (ad 1) 2 := BK_o b1 hO
  refine q_aload_n G 0 0 dX2_init_21 rfl rfl ?_
  refine q_new_1 G dX2_init_22 (by decide +kernel) (by dsimp only; omega) (by dsimp only; omega) (fun f1 hf1 => ?_)
  have of1 : qO (sN (M1) f1 1 0) f1 1 := qO_new
  have ohf1 : qO (sN (M1) f1 1 0) (ad 1) 2 := qO_old hf1 oh_1
  refine q_dup G dX2_init_25 rfl ?_
  refine q_callI (As := []) (rest := [.ref f1, .ref (ad 1)]) G dX2_init_26 cw_X2_17 (c_X1_init l D cy (sN (M1) f1 1 0) f1 of1) rfl rfl (Nat.le_of_ble_eq_true rfl) rfl rfl ⟨Nat.le_of_ble_eq_true rfl, Nat.le_of_ble_eq_true rfl⟩ ⟨by decide, by decide⟩ (fun v9 M9 hq9 => ?_)
  obtain ⟨rfl, e9⟩ := hq9
  refine q_mem e9 ?_
  refine q_st (st2 := [.ref f1, .ref (ad 1)]) rfl ?_
  refine q_pR (z := some f1) G dX2_init_29 (pl_X2_22 _) (fun _ _ _ _ _ => hname) ohf1 (by decide) (Nat.le_of_ble_eq_true rfl) (fs_2_2 _ _ _) ?_
  have b2x : BK M (sR (wL (sN (M1) f1 1 0) (stF (mL (sN (M1) f1 1 0)) f1 1 1 1)) (ad 1) 2 (some f1)) ad T E 1 1 2 2 (up2 (mI M) (ad 1) 0 7 (ad 1)) := BK_s (k := 1) b1 hf1 hT oh_1.1 (hN 1 (by decide)) hE (by decide) (fun b hb => funext (fun x => stF_n _ _ _ _ hb x))
  refine q_abs (fun M9 => BK M M9 ad T E 1 1 2 2 (up2 (mI M) (ad 1) 0 7 (ad 1))) b2x ?_
  intro M2 b2
  clear b2x b1 hf1
  have oh_2 : qO M2 (ad 1) 2 := BK_o b2 hO
  refine q_aload_n G 0 0 dX2_init_32 rfl rfl ?_
  refine q_new_0 G dX2_init_33 (by decide +kernel) (by dsimp only; omega) (by dsimp only; omega) (fun f2 hf2 => ?_)
  have of2 : qO (sN (M2) f2 0 0) f2 0 := qO_new
  have ohf2 : qO (sN (M2) f2 0 0) (ad 1) 2 := qO_old hf2 oh_2
  refine q_dup G dX2_init_36 rfl ?_
  refine q_callI (As := []) (rest := [.ref f2, .ref (ad 1)]) G dX2_init_37 cw_X2_27 (c_X0_init l D cy (sN (M2) f2 0 0) f2 of2) rfl rfl (Nat.le_of_ble_eq_true rfl) rfl rfl ⟨Nat.le_of_ble_eq_true rfl, Nat.le_of_ble_eq_true rfl⟩ ⟨by decide, by decide⟩ (fun v9 M9 hq9 => ?_)
  obtain ⟨rfl, e9⟩ := hq9
  refine q_mem e9 ?_
  refine q_st (st2 := [.ref f2, .ref (ad 1)]) rfl ?_
  refine q_pR (z := some f2) G dX2_init_40 (pl_X2_28 _) (fun _ _ _ _ _ => hname) ohf2 (by decide) (Nat.le_of_ble_eq_true rfl) (fs_2_3 _ _ _) ?_
  have b3x : BK M (sR (sN (M2) f2 0 0) (ad 1) 3 (some f2)) ad T E 1 1 2 3 (up2 (mI M) (ad 1) 0 7 (ad 1)) := BK_s (k := 2) b2 hf2 hT oh_2.1 (hN 2 (by decide)) hE (by decide) (fun _ _ => rfl)
  refine q_abs (fun M9 => BK M M9 ad T E 1 1 2 3 (up2 (mI M) (ad 1) 0 7 (ad 1))) b3x ?_
  intro M3 b3
  clear b3x b2 hf2
  have oh_3 : qO M3 (ad 1) 2 := BK_o b3 hO
  refine q_aload_n G 0 0 dX2_init_43 rfl rfl ?_
  refine q_new_1 G dX2_init_44 (by decide +kernel) (by dsimp only; omega) (by dsimp only; omega) (fun f3 hf3 => ?_)
  have of3 : qO (sN (M3) f3 1 0) f3 1 := qO_new
  have ohf3 : qO (sN (M3) f3 1 0) (ad 1) 2 := qO_old hf3 oh_3
  refine q_dup G dX2_init_47 rfl ?_
  refine q_callI (As := []) (rest := [.ref f3, .ref (ad 1)]) G dX2_init_48 cw_X2_17 (c_X1_init l D cy (sN (M3) f3 1 0) f3 of3) rfl rfl (Nat.le_of_ble_eq_true rfl) rfl rfl ⟨Nat.le_of_ble_eq_true rfl, Nat.le_of_ble_eq_true rfl⟩ ⟨by decide, by decide⟩ (fun v9 M9 hq9 => ?_)
  obtain ⟨rfl, e9⟩ := hq9
  refine q_mem e9 ?_
  refine q_st (st2 := [.ref f3, .ref (ad 1)]) rfl ?_
  refine q_pR (z := some f3) G dX2_init_51 (pl_X2_32 _) (fun _ _ _ _ _ => hname) ohf3 (by decide) (Nat.le_of_ble_eq_true rfl) (fs_2_4 _ _ _) ?_
  have b4x : BK M (sR (wL (sN (M3) f3 1 0) (stF (mL (sN (M3) f3 1 0)) f3 1 1 1)) (ad 1) 4 (some f3)) ad T E 1 1 2 4 (up2 (mI M) (ad 1) 0 7 (ad 1)) := BK_s (k := 3) b3 hf3 hT oh_3.1 (hN 3 (by decide)) hE (by decide) (fun b hb => funext (fun x => stF_n _ _ _ _ hb x))
  refine q_abs (fun M9 => BK M M9 ad T E 1 1 2 4 (up2 (mI M) (ad 1) 0 7 (ad 1))) b4x ?_
  intro M4 b4
  clear b4x b3 hf3
  have oh_4 : qO M4 (ad 1) 2 := BK_o b4 hO
  refine q_aload_n G 0 0 dX2_init_54 rfl rfl ?_
  refine q_new_1 G dX2_init_55 (by decide +kernel) (by dsimp only; omega) (by dsimp only; omega) (fun f4 hf4 => ?_)
  have of4 : qO (sN (M4) f4 1 0) f4 1 := qO_new
  have ohf4 : qO (sN (M4) f4 1 0) (ad 1) 2 := qO_old hf4 oh_4
  refine q_dup G dX2_init_58 rfl ?_
  refine q_callI (As := []) (rest := [.ref f4, .ref (ad 1)]) G dX2_init_59 cw_X2_17 (c_X1_init l D cy (sN (M4) f4 1 0) f4 of4) rfl rfl (Nat.le_of_ble_eq_true rfl) rfl rfl ⟨Nat.le_of_ble_eq_true rfl, Nat.le_of_ble_eq_true rfl⟩ ⟨by decide, by decide⟩ (fun v9 M9 hq9 => ?_)
  obtain ⟨rfl, e9⟩ := hq9
  refine q_mem e9 ?_
  refine q_st (st2 := [.ref f4, .ref (ad 1)]) rfl ?_
  refine q_pR (z := some f4) G dX2_init_62 (pl_X2_35 _) (fun _ _ _ _ _ => hname) ohf4 (by decide) (Nat.le_of_ble_eq_true rfl) (fs_2_5 _ _ _) ?_
  have b5x : BK M (sR (wL (sN (M4) f4 1 0) (stF (mL (sN (M4) f4 1 0)) f4 1 1 1)) (ad 1) 5 (some f4)) ad T E 1 1 2 5 (up2 (mI M) (ad 1) 0 7 (ad 1)) := BK_s (k := 4) b4 hf4 hT oh_4.1 (hN 4 (by decide)) hE (by decide) (fun b hb => funext (fun x => stF_n _ _ _ _ hb x))
  refine q_abs (fun M9 => BK M M9 ad T E 1 1 2 5 (up2 (mI M) (ad 1) 0 7 (ad 1))) b5x ?_
  intro M5 b5
  clear b5x b4 hf4
  have oh_5 : qO M5 (ad 1) 2 := BK_o b5 hO
  refine q_aload_n G 0 0 dX2_init_65 rfl rfl ?_
  refine q_new_1 G dX2_init_66 (by decide +kernel) (by dsimp only; omega) (by dsimp only; omega) (fun f5 hf5 => ?_)
  have of5 : qO (sN (M5) f5 1 0) f5 1 := qO_new
  have ohf5 : qO (sN (M5) f5 1 0) (ad 1) 2 := qO_old hf5 oh_5
  refine q_dup G dX2_init_69 rfl ?_
  refine q_callI (As := []) (rest := [.ref f5, .ref (ad 1)]) G dX2_init_70 cw_X2_17 (c_X1_init l D cy (sN (M5) f5 1 0) f5 of5) rfl rfl (Nat.le_of_ble_eq_true rfl) rfl rfl ⟨Nat.le_of_ble_eq_true rfl, Nat.le_of_ble_eq_true rfl⟩ ⟨by decide, by decide⟩ (fun v9 M9 hq9 => ?_)
  obtain ⟨rfl, e9⟩ := hq9
  refine q_mem e9 ?_
  refine q_st (st2 := [.ref f5, .ref (ad 1)]) rfl ?_
  refine q_pR (z := some f5) G dX2_init_73 (pl_X2_38 _) (fun _ _ _ _ _ => hname) ohf5 (by decide) (Nat.le_of_ble_eq_true rfl) (fs_2_6 _ _ _) ?_
  have b6x : BK M (sR (wL (sN (M5) f5 1 0) (stF (mL (sN (M5) f5 1 0)) f5 1 1 1)) (ad 1) 6 (some f5)) ad T E 1 1 2 6 (up2 (mI M) (ad 1) 0 7 (ad 1)) := BK_s (k := 5) b5 hf5 hT oh_5.1 (hN 5 (by decide)) hE (by decide) (fun b hb => funext (fun x => stF_n _ _ _ _ hb x))
  refine q_abs (fun M9 => BK M M9 ad T E 1 1 2 6 (up2 (mI M) (ad 1) 0 7 (ad 1))) b6x ?_
  intro M6 b6
  clear b6x b5 hf5
  have oh_6 : qO M6 (ad 1) 2 := BK_o b6 hO
  refine q_aload_n G 0 0 dX2_init_76 rfl rfl ?_
  refine q_new_1 G dX2_init_77 (by decide +kernel) (by dsimp only; omega) (by dsimp only; omega) (fun f6 hf6 => ?_)
  have of6 : qO (sN (M6) f6 1 0) f6 1 := qO_new
  have ohf6 : qO (sN (M6) f6 1 0) (ad 1) 2 := qO_old hf6 oh_6
  refine q_dup G dX2_init_80 rfl ?_
  refine q_callI (As := []) (rest := [.ref f6, .ref (ad 1)]) G dX2_init_81 cw_X2_17 (c_X1_init l D cy (sN (M6) f6 1 0) f6 of6) rfl rfl (Nat.le_of_ble_eq_true rfl) rfl rfl ⟨Nat.le_of_ble_eq_true rfl, Nat.le_of_ble_eq_true rfl⟩ ⟨by decide, by decide⟩ (fun v9 M9 hq9 => ?_)
  obtain ⟨rfl, e9⟩ := hq9
  refine q_mem e9 ?_
  refine q_st (st2 := [.ref f6, .ref (ad 1)]) rfl ?_
  refine q_pR (z := some f6) G dX2_init_84 (pl_X2_41 _) (fun _ _ _ _ _ => hname) ohf6 (by decide) (Nat.le_of_ble_eq_true rfl) (fs_2_7 _ _ _) ?_
  have b7x : BK M (sR (wL (sN (M6) f6 1 0) (stF (mL (sN (M6) f6 1 0)) f6 1 1 1)) (ad 1) 7 (some f6)) ad T E 1 1 2 7 (up2 (mI M) (ad 1) 0 7 (ad 1)) := BK_s (k := 6) b6 hf6 hT oh_6.1 (hN 6 (by decide)) hE (by decide) (fun b hb => funext (fun x => stF_n _ _ _ _ hb x))
  refine q_abs (fun M9 => BK M M9 ad T E 1 1 2 7 (up2 (mI M) (ad 1) 0 7 (ad 1))) b7x ?_
  intro M7 b7
  clear b7x b6 hf6
  have oh_7 : qO M7 (ad 1) 2 := BK_o b7 hO
  refine q_aload_n G 0 0 dX2_init_87 rfl rfl ?_
  refine q_new_1 G dX2_init_88 (by decide +kernel) (by dsimp only; omega) (by dsimp only; omega) (fun f7 hf7 => ?_)
  have of7 : qO (sN (M7) f7 1 0) f7 1 := qO_new
  have ohf7 : qO (sN (M7) f7 1 0) (ad 1) 2 := qO_old hf7 oh_7
  refine q_dup G dX2_init_91 rfl ?_
  refine q_callI (As := []) (rest := [.ref f7, .ref (ad 1)]) G dX2_init_92 cw_X2_17 (c_X1_init l D cy (sN (M7) f7 1 0) f7 of7) rfl rfl (Nat.le_of_ble_eq_true rfl) rfl rfl ⟨Nat.le_of_ble_eq_true rfl, Nat.le_of_ble_eq_true rfl⟩ ⟨by decide, by decide⟩ (fun v9 M9 hq9 => ?_)
  obtain ⟨rfl, e9⟩ := hq9
  refine q_mem e9 ?_
  refine q_st (st2 := [.ref f7, .ref (ad 1)]) rfl ?_
  refine q_pR (z := some f7) G dX2_init_95 (pl_X2_44 _) (fun _ _ _ _ _ => hname) ohf7 (by decide) (Nat.le_of_ble_eq_true rfl) (fs_2_8 _ _ _) ?_
  have b8x : BK M (sR (wL (sN (M7) f7 1 0) (stF (mL (sN (M7) f7 1 0)) f7 1 1 1)) (ad 1) 8 (some f7)) ad T E 1 1 2 8 (up2 (mI M) (ad 1) 0 7 (ad 1)) := BK_s (k := 7) b7 hf7 hT oh_7.1 (hN 7 (by decide)) hE (by decide) (fun b hb => funext (fun x => stF_n _ _ _ _ hb x))
  refine q_abs (fun M9 => BK M M9 ad T E 1 1 2 8 (up2 (mI M) (ad 1) 0 7 (ad 1))) b8x ?_
  intro M8 b8
  clear b8x b7 hf7
  have oh_8 : qO M8 (ad 1) 2 := BK_o b8 hO
  refine q_aload_n G 0 0 dX2_init_98 rfl rfl ?_
  refine q_new_1 G dX2_init_99 (by decide +kernel) (by dsimp only; omega) (by dsimp only; omega) (fun f8 hf8 => ?_)
  have of8 : qO (sN (M8) f8 1 0) f8 1 := qO_new
  have ohf8 : qO (sN (M8) f8 1 0) (ad 1) 2 := qO_old hf8 oh_8
  refine q_dup G dX2_init_102 rfl ?_
  refine q_callI (As := []) (rest := [.ref f8, .ref (ad 1)]) G dX2_init_103 cw_X2_17 (c_X1_init l D cy (sN (M8) f8 1 0) f8 of8) rfl rfl (Nat.le_of_ble_eq_true rfl) rfl rfl ⟨Nat.le_of_ble_eq_true rfl, Nat.le_of_ble_eq_true rfl⟩ ⟨by decide, by decide⟩ (fun v9 M9 hq9 => ?_)
  obtain ⟨rfl, e9⟩ := hq9
  refine q_mem e9 ?_
  refine q_st (st2 := [.ref f8, .ref (ad 1)]) rfl ?_
  refine q_pR (z := some f8) G dX2_init_106 (pl_X2_47 _) (fun _ _ _ _ _ => hname) ohf8 (by decide) (Nat.le_of_ble_eq_true rfl) (fs_2_9 _ _ _) ?_
  have b9x : BK M (sR (wL (sN (M8) f8 1 0) (stF (mL (sN (M8) f8 1 0)) f8 1 1 1)) (ad 1) 9 (some f8)) ad T E 1 1 2 9 (up2 (mI M) (ad 1) 0 7 (ad 1)) := BK_s (k := 8) b8 hf8 hT oh_8.1 (hN 8 (by decide)) hE (by decide) (fun b hb => funext (fun x => stF_n _ _ _ _ hb x))
  refine q_abs (fun M9 => BK M M9 ad T E 1 1 2 9 (up2 (mI M) (ad 1) 0 7 (ad 1))) b9x ?_
  intro M9 b9
  clear b9x b8 hf8
  have oh_9 : qO M9 (ad 1) 2 := BK_o b9 hO
  exact q_vret G dX2_init_109 hret (by omega) (by omega) (⟨rfl, b9⟩)
