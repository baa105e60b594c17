/-! the clock's state, as numbers and forms -/
abbrev qS : Type := Int × Int × Int × (Nat → qT3) × (Nat → Int) × (Nat → Int) × Int × Int × Int
def sD (σ : qS) : Int := σ.1
def sB (σ : qS) : Int := σ.2.1
def sU (σ : qS) : Int := σ.2.2.1
def sF (σ : qS) : Nat → qT3 := σ.2.2.2.1
def sV (σ : qS) : Nat → Int := σ.2.2.2.2.1
def sC (σ : qS) : Nat → Int := σ.2.2.2.2.2.1
def sQ (σ : qS) : Int := σ.2.2.2.2.2.2.1
def sT (σ : qS) : Int := σ.2.2.2.2.2.2.2.1
def sX (σ : qS) : Int := σ.2.2.2.2.2.2.2.2
def up1 {α : Type} (f : Nat → α) (a : Nat) (v : α) : Nat → α := fun b => if b = a then v else f b
theorem up1_s {α : Type} (f : Nat → α) (a : Nat) (v : α) : up1 f a v a = v := by simp [up1]
theorem up1_n {α : Type} (f : Nat → α) {a b : Nat} (v : α) (h : b ≠ a) : up1 f a v b = f b := by simp [up1, h]
def setD (σ : qS) (v : Int) : qS := (v, sB σ, sU σ, sF σ, sV σ, sC σ, sQ σ, sT σ, sX σ)
def setB (σ : qS) (v : Int) : qS := (sD σ, v, sU σ, sF σ, sV σ, sC σ, sQ σ, sT σ, sX σ)
def setU (σ : qS) (v : Int) : qS := (sD σ, sB σ, v, sF σ, sV σ, sC σ, sQ σ, sT σ, sX σ)
def setF (σ : qS) (k : Nat) (v : qT3) : qS := (sD σ, sB σ, sU σ, up1 (sF σ) k v, sV σ, sC σ, sQ σ, sT σ, sX σ)
def setV (σ : qS) (k : Nat) (v : Int) : qS := (sD σ, sB σ, sU σ, sF σ, up1 (sV σ) k v, sC σ, sQ σ, sT σ, sX σ)
def setC (σ : qS) (k : Nat) (v : Int) : qS := (sD σ, sB σ, sU σ, sF σ, sV σ, up1 (sC σ) k v, sQ σ, sT σ, sX σ)
def setQ (σ : qS) (v : Int) : qS := (sD σ, sB σ, sU σ, sF σ, sV σ, sC σ, v, sT σ, sX σ)
def setT (σ : qS) (v : Int) : qS := (sD σ, sB σ, sU σ, sF σ, sV σ, sC σ, sQ σ, v, sX σ)
def setX (σ : qS) (v : Int) : qS := (sD σ, sB σ, sU σ, sF σ, sV σ, sC σ, sQ σ, sT σ, v)
noncomputable def bI (P : Prop) : Int := @ite Int P (Classical.propDecidable P) 1 0
theorem bI_1 {P : Prop} (h : P) : bI P = 1 := by unfold bI; rw [if_pos h]
theorem bI_0 {P : Prop} (h : ¬ P) : bI P = 0 := by unfold bI; rw [if_neg h]
theorem bI_z {P : Prop} {z : Int} (h : (z = 1 ∧ P) ∨ (z = 0 ∧ ¬ P)) : z = bI P := by
  rcases h with ⟨h, hp⟩ | ⟨h, hp⟩
  · rw [h, bI_1 hp]
  · rw [h, bI_0 hp]
theorem bI_or (P : Prop) : (bI P = 1 ∧ P) ∨ (bI P = 0 ∧ ¬ P) := by
  by_cases h : P
  · exact Or.inl ⟨bI_1 h, h⟩
  · exact Or.inr ⟨bI_0 h, h⟩
theorem bI_congr {P P' : Prop} (h : P ↔ P') : bI P = bI P' := by rw [propext h]
def ptT (t : qT3) (k : Int) : Int := if k = 0 then t.1 else if k = 1 then t.2.1 else t.2.2
/-- the least prime from n on -/
noncomputable def lpN (n : Int) : Int := Classical.epsilon (fun c => isLp n c)
theorem isLp_u {n x y : Int} (h : isLp n x) (h' : isLp n y) : x = y := by
  rcases Int.lt_trichotomy x y with h9 | h9 | h9
  · exact absurd h.2.2.1 (h'.2.2.2 x h.1 h9)
  · exact h9
  · exact absurd h'.2.2.1 (h.2.2.2 y h'.1 h9)
theorem lpN_eq {n x : Int} (h : isLp n x) : lpN n = x := isLp_u (Classical.epsilon_spec (p := fun c => isLp n c) ⟨x, h⟩) h
noncomputable def prmT (x y : qT3) (t : Int) : Int := lpN (3 + qand (mixN (mixF (mixF 2 x) y) t) 65535)
/-! what each call answers: the number of its refusal (0: none), its answer, the state behind it -/
def e_0 (σ : qS) (n : Int) : Int := if n < 7 ∨ n > 1000000000 ∨ n % 8 ≠ 7 then 1 else if sU σ = 1 then 2 else 0
def n_0 (σ : qS) (n : Int) : qS := setV (setV (setV (setB (setD σ n) 0) 0 0) 1 0) 2 0
def e_1 (σ : qS) (t : Int) : Int := if sD σ = 0 then 1 else if t < 1 ∨ t > 500 then 2 else if sU σ = 1 ∨ sB σ = 16 then 1 else 0
def h_1 (σ : qS) : Int := if sB σ > 0 then mixF (mixN (mixN 1 (sD σ)) (sB σ)) (sF σ (3 * sB σ + 4).toNat) else mixN (mixN 1 (sD σ)) (sB σ)
def a_1 (σ : qS) : Int := 1 + qand (h_1 σ) 65535
noncomputable def p_1 (σ : qS) : qT3 := powT (unT (sD σ)) (geT (sD σ)) (a_1 σ)
noncomputable def n_1 (σ : qS) (t : Int) : qS := setX (setT (setQ (setU (setF (setF (setF (setC (setC (setC σ 48 t) 49 (a_1 σ)) 50 0) 3 (p_1 σ)) 4 (p_1 σ)) 5 (unT (sD σ))) 1) t) t) 1
noncomputable def sqN : Nat → qT3 → qT3
  | 0, t => t
  | k + 1, t => mulT (sqN k t) (sqN k t)
def e_2 (σ : qS) (n : Int) : Int := if sD σ = 0 then 1 else if ¬ (0 < n ∧ n < 501) then 2 else if sU σ = 0 ∨ sQ σ = 0 then 1 else 0
def k_2 (σ : qS) (n : Int) : Int := if sQ σ < n then sQ σ else n
noncomputable def m_2 (σ : qS) (n : Int) : qS := setQ (setF σ 4 (sqN (k_2 σ n).toNat (sF σ 4))) (sQ σ - k_2 σ n)
noncomputable def n_2 (σ : qS) (n : Int) : qS := if sQ σ - k_2 σ n = 0 then setC (m_2 σ n) 50 (prmT (sF σ 3) (sqN (k_2 σ n).toNat (sF σ 4)) (sC σ 48)) else m_2 σ n
def a_2 (σ : qS) (n : Int) : Int := sQ σ - k_2 σ n
/-- a step of the proof: the form and the rest -/
noncomputable def stT (x : qT3) (pr : Int) (u : qT3 × Int) : qT3 × Int := if 2 * u.2 ≥ pr then (mulT (mulT u.1 u.1) x, 2 * u.2 - pr) else (mulT u.1 u.1, 2 * u.2)
noncomputable def stN (x : qT3) (pr : Int) : Nat → qT3 × Int → qT3 × Int
  | 0, u => u
  | k + 1, u => stT x pr (stN x pr k u)
def e_3 (σ : qS) (n : Int) : Int := if sD σ = 0 then 1 else if ¬ (0 < n ∧ n < 501) then 2 else if sU σ = 0 ∨ sQ σ > 0 ∨ sT σ = 0 then 1 else 0
def k_3 (σ : qS) (n : Int) : Int := if sT σ < n then sT σ else n
noncomputable def u_3 (σ : qS) (k : Nat) : qT3 × Int := stN (sF σ 3) (sC σ 50) k (sF σ 5, sX σ)
noncomputable def n_3 (σ : qS) (n : Int) : qS := setT (setX (setF σ 5 (u_3 σ (k_3 σ n).toNat).1) (u_3 σ (k_3 σ n).toNat).2) (sT σ - k_3 σ n)
def a_3 (σ : qS) (n : Int) : Int := sT σ - k_3 σ n
def e_4 (σ : qS) : Int := if sD σ = 0 ∨ sU σ = 0 ∨ sQ σ > 0 ∨ sT σ > 0 then 1 else 0
def c_4 (σ : qS) (k : Nat) : qS := setC (setF σ (6 + 3 * (sB σ).toNat + k) (sF σ (3 + k))) (3 * (sB σ).toNat + k) (sC σ (48 + k))
def n_4 (σ : qS) : qS := setU (setB (c_4 (c_4 (c_4 σ 0) 1) 2) (sB σ + 1)) 0
def a_4 (σ : qS) : Int := sB σ + 1
abbrev isPl (σ : qS) (r : Int) : Prop := (r = -1 ∧ sU σ = 1) ∨ (0 ≤ r ∧ r < sB σ)
def e_7 (σ : qS) (r w : Int) : Int := if sD σ = 0 then 1 else if ¬ isPl σ r ∨ w < 0 ∨ w > 2 then 2 else 0
def a_7 (σ : qS) (r w : Int) : Int := sC σ (if r = -1 then (48 + w).toNat else (3 * r + w).toNat)
def e_8 (σ : qS) (r w k : Int) : Int := if sD σ = 0 then 1 else if ¬ isPl σ r ∨ w < 0 ∨ w > 2 ∨ k < 0 ∨ k > 2 then 2 else 0
def plN (r : Int) : Int := if r = -1 then 3 else 6 + 3 * r
def a_8 (σ : qS) (r w k : Int) : Int := qw32 (ptT (sF σ (plN r + w).toNat) k)
abbrev isBk (σ : qS) (r : Int) : Prop := 0 ≤ r ∧ r < sB σ
/-- whether a proof and x make y -/
def hdT (d : Int) (x y pf : qT3) (t pr : Int) : Prop := mulT (powT (unT d) pf pr) (powT (unT d) x (rstN t.toNat pr)) = y
def e_9 (σ : qS) (r : Int) : Int := if sD σ = 0 then 1 else if ¬ isBk σ r then 2 else 0
noncomputable def a_9 (σ : qS) (r : Int) : Int := bI (powT (unT (sD σ)) (geT (sD σ)) (sC σ (3 * r + 1).toNat) = sF σ (6 + 3 * r).toNat ∧ hdT (sD σ) (sF σ (6 + 3 * r).toNat) (sF σ (6 + 3 * r + 1).toNat) (sF σ (6 + 3 * r + 2).toNat) (sC σ (3 * r).toNat) (sC σ (3 * r + 2).toNat))
def okP (d a b : Int) : Prop := (1 ≤ a ∧ a ≤ 100000 ∧ -100000 ≤ b ∧ b ≤ 100000) ∧ (b * b + d) % (4 * a) = 0 ∧ fPr a b ((b * b + d) / (4 * a))
abbrev isSl (i : Int) : Prop := 0 ≤ i ∧ i < 3
noncomputable def e_10 (σ : qS) (i a b : Int) : Int := if sD σ = 0 then 1 else if ¬ isSl i then 2 else if bI (okP (sD σ) a b) = 0 then 3 else 0
def n_10 (σ : qS) (i a b : Int) : qS := setV (setF σ i.toNat (a, b, (b * b + sD σ) / (4 * a))) i.toNat 1
def e_11 (σ : qS) (i k : Int) : Int := if sD σ = 0 then 1 else if ¬ isSl i ∨ ¬ isSl k then 2 else if sV σ i.toNat = 0 then 3 else 0
def a_11 (σ : qS) (i k : Int) : Int := ptT (sF σ i.toNat) k
noncomputable def n_12 (σ : qS) (i k : Int) : qS := setV (setF σ k.toNat (redT (sF σ i.toNat))) k.toNat 1
def e_13 (σ : qS) (i j k : Int) : Int := if sD σ = 0 then 1 else if ¬ isSl i ∨ ¬ isSl j ∨ ¬ isSl k then 2 else if sV σ i.toNat = 0 ∨ sV σ j.toNat = 0 then 3 else 0
noncomputable def n_13 (σ : qS) (i j k : Int) : qS := setV (setF σ k.toNat (mulT (sF σ i.toNat) (sF σ j.toNat))) k.toNat 1
def e_14 (σ : qS) (i n k : Int) : Int := if sD σ = 0 then 1 else if ¬ isSl i ∨ ¬ isSl k then 2 else if n < 0 then 3 else if sV σ i.toNat = 0 then 4 else 0
noncomputable def n_14 (σ : qS) (i n k : Int) : qS := setV (setF σ k.toNat (powT (unT (sD σ)) (sF σ i.toNat) n)) k.toNat 1
def e_15 (σ : qS) (r : Int) : Int := if sD σ = 0 then 1 else if ¬ isBk σ r then 2 else if sV σ 0 = 0 ∨ sV σ 1 = 0 ∨ sV σ 2 = 0 then 3 else 0
noncomputable def a_15 (σ : qS) (r : Int) : Int := if bI (sF σ 0 = sF σ (6 + 3 * r).toNat) = 0 then 1 else if bI (rdT (sF σ 1) ∧ rdT (sF σ 2)) = 0 then 2 else if bI (hdT (sD σ) (sF σ 0) (sF σ 1) (sF σ 2) (sC σ (3 * r).toNat) (prmT (sF σ 0) (sF σ 1) (sC σ (3 * r).toNat))) = 1 then 0 else 3
def e_16 (σ : qS) (n : Int) : Int := if sD σ = 0 then 1 else if n < 1 ∨ n > 1000 then 2 else 0
noncomputable def a_16 (σ : qS) (n : Int) : Int := ordN n.toNat 1 (geT (sD σ)) (unT (sD σ)) (geT (sD σ))
def e_17 (σ : qS) : Int := if sD σ = 0 then 1 else if sD σ > 50000 then 2 else 0
/-! which forms count, and what holds of them -/
def lvF (σ : qS) (k : Nat) : Prop := (k < 3 ∧ sV σ k = 1) ∨ (3 ≤ k ∧ k < 6 ∧ sU σ = 1) ∨ (6 ≤ k ∧ (k : Int) < 6 + 3 * sB σ)
def fcOk (t x pr : Int) : Prop := (1 ≤ t ∧ t ≤ 500) ∧ (1 ≤ x ∧ x ≤ 65536) ∧ (3 ≤ pr ∧ pr ≤ 65539)
def rnOk (σ : qS) : Prop := ((1 ≤ sC σ 48 ∧ sC σ 48 ≤ 500) ∧ (1 ≤ sC σ 49 ∧ sC σ 49 ≤ 65536) ∧ (0 ≤ sC σ 50 ∧ sC σ 50 ≤ 65539)) ∧ (0 ≤ sQ σ ∧ sQ σ ≤ 500) ∧ (0 ≤ sT σ ∧ sT σ ≤ 500) ∧ (sQ σ = 0 → 3 ≤ sC σ 50 ∧ 0 ≤ sX σ ∧ sX σ < sC σ 50) ∧ (0 < sQ σ → sX σ = 1)
def WF (σ : qS) : Prop := (sD σ = 0 ∨ dOk (sD σ)) ∧ (0 ≤ sB σ ∧ sB σ ≤ 16 ∧ (sU σ = 1 → sB σ < 16)) ∧ (sU σ = 0 ∨ sU σ = 1) ∧ (∀ j, j < 3 → sV σ j = 0 ∨ sV σ j = 1) ∧ (∀ k, lvF σ k → gd (sD σ) (sF σ k)) ∧ (∀ i : Nat, (i : Int) < sB σ → fcOk (sC σ (3 * i)) (sC σ (3 * i + 1)) (sC σ (3 * i + 2))) ∧ (sU σ = 1 → rnOk σ)
/-! the reference's memory -/
def wI (M : qM) (I L : Nat → Nat → Int) : qM := (mP M, mK M, mN M, I, L, mR M)
def RMd (σ : qS) (I L : Nat → Nat → Int) (mo qa qb qc qf qt : Nat) : Prop := (L mo 1 = sD σ ∧ I mo 6 = sU σ ∧ I mo 7 = sB σ ∧ I mo 9 = sQ σ ∧ I mo 10 = sT σ ∧ I mo 11 = sX σ) ∧ (∀ k, k < 54 → gM L qa qb qc k = sF σ k) ∧ (∀ j, j < 3 → I qf j = sV σ j) ∧ (∀ q, q < 51 → I qt q = sC σ q) ∧ (sD σ ≠ 0 → gM L qa qb qc 54 = unT (sD σ) ∧ gM L qa qb qc 55 = geT (sD σ))
def frR (I L I' L' : Nat → Nat → Int) (mo qa qb qc qf qt : Nat) : Prop := (∀ b, b ≠ mo → b ≠ qf → b ≠ qt → I' b = I b) ∧ (∀ b, b ≠ mo → b ≠ qa → b ≠ qb → b ≠ qc → L' b = L b)
/-- the end of a call of the reference -/
def po5 (M : qM) (mo qa qb qc qf qt : Nat) (σ : qS) (x : Int) (P : Option Value → Prop) : Option Value → qM → Prop := fun v M' => ∃ I L, M' = wI M I L ∧ frR (mI M) (mL M) I L mo qa qb qc qf qt ∧ I mo 0 = x ∧ RMd σ I L mo qa qb qc qf qt ∧ P v
theorem frR_rf (I L : Nat → Nat → Int) (mo qa qb qc qf qt : Nat) : frR I L I L mo qa qb qc qf qt := ⟨fun _ _ _ _ => rfl, fun _ _ _ _ _ => rfl⟩
section RMs
variable {σ : qS} {I L I' L' I0 L0 : Nat → Nat → Int} {mo qa qb qc qf qt : Nat}
theorem frR_I (h : frR I0 L0 I L mo qa qb qc qf qt) (b k : Nat) (v : Int) (hb : b = mo ∨ b = qf ∨ b = qt) : frR I0 L0 (up2 I b k v) L mo qa qb qc qf qt := ⟨fun x h1 h2 h3 => by
  rw [up2_row _ _ (by rcases hb with rfl | rfl | rfl <;> assumption)]; exact h.1 x h1 h2 h3, h.2⟩
theorem frR_d (h : frR I0 L0 I L mo qa qb qc qf qt) (k : Nat) (v : Int) : frR I0 L0 I (up2 L mo k v) mo qa qb qc qf qt := ⟨h.1, fun x h1 h2 h3 h4 => by rw [up2_row _ _ h1]; exact h.2 x h1 h2 h3 h4⟩
theorem frR_L (h : frR I0 L0 I L mo qa qb qc qf qt) {M : qM} (hM : mL M = L) {S : List Nat} (hf : frM M L' qa qb qc S) : frR I0 L0 I L' mo qa qb qc qf qt := ⟨h.1, fun x h1 h2 h3 h4 => by
  rw [← h.2 x h1 h2 h3 h4, ← hM]; funext k; exact hf x k (fun h9 => h9.1.elim h2 (fun h8 => h8.elim h3 h4))⟩
theorem RM_0 (h : RMd σ I L mo qa qb qc qf qt) (v : Int) (n1 : mo ≠ qf) (n2 : mo ≠ qt) : RMd σ (up2 I mo 0 v) L mo qa qb qc qf qt := by
  obtain ⟨⟨a1, a2, a3, a4, a5, a6⟩, b, c, d, e⟩ := h
  refine ⟨⟨a1, ?_, ?_, ?_, ?_, ?_⟩, b, fun j hj => ?_, fun j hj => ?_, e⟩
  all_goals first | (rw [up2_k _ _ (by decide)]; assumption) | (rw [up2_a _ _ n1.symm]; exact c j hj) | (rw [up2_a _ _ n2.symm]; exact d j hj)
theorem RM_6 (h : RMd σ I L mo qa qb qc qf qt) (v : Int) (n1 : mo ≠ qf) (n2 : mo ≠ qt) : RMd (setU σ v) (up2 I mo 6 v) L mo qa qb qc qf qt := by
  obtain ⟨⟨a1, a2, a3, a4, a5, a6⟩, b, c, d, e⟩ := h
  refine ⟨⟨a1, up2_s _ _ _ _, ?_, ?_, ?_, ?_⟩, b, fun j hj => ?_, fun j hj => ?_, e⟩
  all_goals first | (rw [up2_k _ _ (by decide)]; assumption) | (rw [up2_a _ _ n1.symm]; exact c j hj) | (rw [up2_a _ _ n2.symm]; exact d j hj)
theorem RM_7 (h : RMd σ I L mo qa qb qc qf qt) (v : Int) (n1 : mo ≠ qf) (n2 : mo ≠ qt) : RMd (setB σ v) (up2 I mo 7 v) L mo qa qb qc qf qt := by
  obtain ⟨⟨a1, a2, a3, a4, a5, a6⟩, b, c, d, e⟩ := h
  refine ⟨⟨a1, ?_, up2_s _ _ _ _, ?_, ?_, ?_⟩, b, fun j hj => ?_, fun j hj => ?_, e⟩
  all_goals first | (rw [up2_k _ _ (by decide)]; assumption) | (rw [up2_a _ _ n1.symm]; exact c j hj) | (rw [up2_a _ _ n2.symm]; exact d j hj)
theorem RM_9 (h : RMd σ I L mo qa qb qc qf qt) (v : Int) (n1 : mo ≠ qf) (n2 : mo ≠ qt) : RMd (setQ σ v) (up2 I mo 9 v) L mo qa qb qc qf qt := by
  obtain ⟨⟨a1, a2, a3, a4, a5, a6⟩, b, c, d, e⟩ := h
  refine ⟨⟨a1, ?_, ?_, up2_s _ _ _ _, ?_, ?_⟩, b, fun j hj => ?_, fun j hj => ?_, e⟩
  all_goals first | (rw [up2_k _ _ (by decide)]; assumption) | (rw [up2_a _ _ n1.symm]; exact c j hj) | (rw [up2_a _ _ n2.symm]; exact d j hj)
theorem RM_10 (h : RMd σ I L mo qa qb qc qf qt) (v : Int) (n1 : mo ≠ qf) (n2 : mo ≠ qt) : RMd (setT σ v) (up2 I mo 10 v) L mo qa qb qc qf qt := by
  obtain ⟨⟨a1, a2, a3, a4, a5, a6⟩, b, c, d, e⟩ := h
  refine ⟨⟨a1, ?_, ?_, ?_, up2_s _ _ _ _, ?_⟩, b, fun j hj => ?_, fun j hj => ?_, e⟩
  all_goals first | (rw [up2_k _ _ (by decide)]; assumption) | (rw [up2_a _ _ n1.symm]; exact c j hj) | (rw [up2_a _ _ n2.symm]; exact d j hj)
theorem RM_11 (h : RMd σ I L mo qa qb qc qf qt) (v : Int) (n1 : mo ≠ qf) (n2 : mo ≠ qt) : RMd (setX σ v) (up2 I mo 11 v) L mo qa qb qc qf qt := by
  obtain ⟨⟨a1, a2, a3, a4, a5, a6⟩, b, c, d, e⟩ := h
  refine ⟨⟨a1, ?_, ?_, ?_, ?_, up2_s _ _ _ _⟩, b, fun j hj => ?_, fun j hj => ?_, e⟩
  all_goals first | (rw [up2_k _ _ (by decide)]; assumption) | (rw [up2_a _ _ n1.symm]; exact c j hj) | (rw [up2_a _ _ n2.symm]; exact d j hj)
theorem RM_V (h : RMd σ I L mo qa qb qc qf qt) (v : Int) (n1 : mo ≠ qf) (n3 : qf ≠ qt) (k : Nat) : RMd (setV σ k v) (up2 I qf k v) L mo qa qb qc qf qt := by
  obtain ⟨⟨a1, a2, a3, a4, a5, a6⟩, b, c, d, e⟩ := h
  refine ⟨⟨a1, ?_, ?_, ?_, ?_, ?_⟩, b, fun j hj => ?_, fun j hj => ?_, e⟩
  all_goals first | (rw [up2_a _ _ n1]; assumption) | (rw [up2_a _ _ n3.symm]; exact d j hj) | skip
  show up2 I qf k v qf j = up1 (sV σ) k v j
  unfold up2 up1
  by_cases hk : j = k
  · simp [hk]
  · simp [hk]; exact c j hj
theorem RM_C (h : RMd σ I L mo qa qb qc qf qt) (v : Int) (n2 : mo ≠ qt) (n3 : qf ≠ qt) (k : Nat) : RMd (setC σ k v) (up2 I qt k v) L mo qa qb qc qf qt := by
  obtain ⟨⟨a1, a2, a3, a4, a5, a6⟩, b, c, d, e⟩ := h
  refine ⟨⟨a1, ?_, ?_, ?_, ?_, ?_⟩, b, fun j hj => ?_, fun j hj => ?_, e⟩
  all_goals first | (rw [up2_a _ _ n2]; assumption) | (rw [up2_a _ _ n3]; exact c j hj) | skip
  show up2 I qt k v qt j = up1 (sC σ) k v j
  unfold up2 up1
  by_cases hk : j = k
  · simp [hk]
  · simp [hk]; exact d j hj
/-- places are written, and one of them counts -/
theorem RM_F {M : qM} (h : RMd σ I (mL M) mo qa qb qc qf qt) {S : List Nat} {k : Nat} {t : qT3} (n4 : mo ≠ qa) (n5 : mo ≠ qb) (n6 : mo ≠ qc) (hf : frM M L' qa qb qc S) (hS : ∀ x ∈ S, x = k ∨ 56 ≤ x) (hk : k < 54) (ht : gM L' qa qb qc k = t) : RMd (setF σ k t) I L' mo qa qb qc qf qt := by
  obtain ⟨⟨a1, a2, a3, a4, a5, a6⟩, b, c, d, e⟩ := h
  have hn : ∀ x, x ≠ k → x < 56 → gM L' qa qb qc x = gM (mL M) qa qb qc x := fun x h1 h2 => frM_g hf (fun h3 => by rcases hS x h3 with h4 | h4 <;> omega)
  refine ⟨⟨?_, a2, a3, a4, a5, a6⟩, fun j hj => ?_, c, d, fun h9 => ?_⟩
  · rw [hf mo 1 (fun h9 => h9.1.elim n4 (fun h8 => h8.elim n5 n6))]; exact a1
  · show _ = up1 (sF σ) k t j
    by_cases hjk : j = k
    · rw [hjk, ht, up1_s]
    · rw [hn j hjk (by omega), up1_n _ _ hjk]; exact b j hj
  · rw [hn 54 (by omega) (by omega), hn 55 (by omega) (by omega)]; exact e h9
/-- places that don't count are written -/
theorem RM_G {M : qM} (h : RMd σ I (mL M) mo qa qb qc qf qt) {S : List Nat} (n4 : mo ≠ qa) (n5 : mo ≠ qb) (n6 : mo ≠ qc) (hf : frM M L' qa qb qc S) (hS : ∀ x ∈ S, 56 ≤ x) : RMd σ I L' mo qa qb qc qf qt := by
  obtain ⟨⟨a1, a2, a3, a4, a5, a6⟩, b, c, d, e⟩ := h
  have hn : ∀ x, x < 56 → gM L' qa qb qc x = gM (mL M) qa qb qc x := fun x h2 => frM_g hf (fun h3 => by have := hS x h3; omega)
  refine ⟨⟨?_, a2, a3, a4, a5, a6⟩, fun j hj => ?_, c, d, fun h9 => ?_⟩
  · rw [hf mo 1 (fun h9 => h9.1.elim n4 (fun h8 => h8.elim n5 n6))]; exact a1
  · rw [hn j (by omega)]; exact b j hj
  · rw [hn 54 (by omega), hn 55 (by omega)]; exact e h9
end RMs
theorem qMO_ne {M : qM} {mo qa qb qc qf qt : Nat} (h : qMO M mo qa qb qc qf qt) : mo ≠ qf ∧ mo ≠ qt ∧ qf ≠ qt := by
  obtain ⟨⟨-, h1⟩, -, ⟨-, -, -, ⟨-, h2, -⟩, ⟨-, h3, -⟩⟩, -⟩ := h
  refine ⟨?_, ?_, ?_⟩ <;> (rintro rfl; omega)
