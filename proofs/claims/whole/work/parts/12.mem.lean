/-! the memory: addresses, kinds, lengths, ints, longs, references -/
abbrev qM : Type := List Nat × (Nat → Nat) × (Nat → Nat) × (Nat → Nat → Int) × (Nat → Nat → Int) × (Nat → Nat → Option Nat)
def mP (M : qM) : List Nat := M.1
def mK (M : qM) : Nat → Nat := M.2.1
def mN (M : qM) : Nat → Nat := M.2.2.1
def mI (M : qM) : Nat → Nat → Int := M.2.2.2.1
def mL (M : qM) : Nat → Nat → Int := M.2.2.2.2.1
def mR (M : qM) : Nat → Nat → Option Nat := M.2.2.2.2.2
def up2 {α : Type} (f : Nat → Nat → α) (a k : Nat) (v : α) : Nat → Nat → α := fun b j => if b = a ∧ j = k then v else f b j
theorem up2_s {α : Type} (f : Nat → Nat → α) (a k : Nat) (v : α) : up2 f a k v a k = v := by simp [up2]
theorem up2_n {α : Type} (f : Nat → Nat → α) {a k b j : Nat} (v : α) (h : ¬ (b = a ∧ j = k)) : up2 f a k v b j = f b j := by simp [up2, h]
theorem up2_a {α : Type} (f : Nat → Nat → α) {a k b j : Nat} (v : α) (h : b ≠ a) : up2 f a k v b j = f b j := by simp [up2, h]
theorem up2_k {α : Type} (f : Nat → Nat → α) {a k b j : Nat} (v : α) (h : j ≠ k) : up2 f a k v b j = f b j := by simp [up2, h]
def sI (M : qM) (a k : Nat) (z : Int) : qM := (mP M, mK M, mN M, up2 (mI M) a k z, mL M, mR M)
def sL (M : qM) (a k : Nat) (z : Int) : qM := (mP M, mK M, mN M, mI M, up2 (mL M) a k z, mR M)
def sR (M : qM) (a k : Nat) (z : Option Nat) : qM := (mP M, mK M, mN M, mI M, mL M, up2 (mR M) a k z)
/-- a new cell: kind, length; zeros in it -/
def sN (M : qM) (a ki n : Nat) : qM := (mP M ++ [a], va_up (mK M) a ki, va_up (mN M) a n, va_up (mI M) a (fun _ => 0), va_up (mL M) a (fun _ => 0), va_up (mR M) a (fun _ => none))
/-- the fields of an object, by its class -/
def qF (ci : Nat) (M : qM) (a : Nat) : List Value := match ci with
  | 0 => [.long (qL (mL M a 0)), .long (qL (mL M a 1)), .long (qL (mL M a 2))]
  | 1 => [.long (qL (mL M a 0)), .long (qL (mL M a 1)), .long (qL (mL M a 2))]
  | 2 => [.int (qI (mI M a 0)), va_rf (mR M a 1), va_rf (mR M a 2), va_rf (mR M a 3), va_rf (mR M a 4), va_rf (mR M a 5), va_rf (mR M a 6), va_rf (mR M a 7), va_rf (mR M a 8), va_rf (mR M a 9)]
  | 3 => [.int (qI (mI M a 0)), .int (qI (mI M a 1)), .int (qI (mI M a 2)), .int (qI (mI M a 3)), .int (qI (mI M a 4)), .int (qI (mI M a 5)), va_rf (mR M a 6), va_rf (mR M a 7), va_rf (mR M a 8)]
  | 4 => [va_rf (mR M a 0), va_rf (mR M a 1), va_rf (mR M a 2), va_rf (mR M a 3), .int (qI (mI M a 4)), .int (qI (mI M a 5)), va_rf (mR M a 6)]
  | _ => [.int (qI (mI M a 0)), .long (qL (mL M a 1)), va_rf (mR M a 2), va_rf (mR M a 3), va_rf (mR M a 4), va_rf (mR M a 5), .int (qI (mI M a 6)), .int (qI (mI M a 7)), va_rf (mR M a 8), .int (qI (mI M a 9)), .int (qI (mI M a 10)), .int (qI (mI M a 11))]
def qC (cy : Nat → ClassId) (M : qM) (a : Nat) : va_E :=
  if mK M a < 6 then .inr (mK M a, qF (mK M a) M a)
  else if mK M a = 6 then .inl (cy 0, mN M a, .inl (fun j => qI (mI M a j)))
  else if mK M a = 7 then .inl (cy 1, mN M a, .inr (.inl (fun j => qL (mL M a j))))
  else if mK M a = 8 then .inl (cy 2, mN M a, .inl (fun j => qI (mI M a j)))
  else if mK M a = 9 then .inl (cy 3, mN M a, .inr (.inr (.inr (.inr (fun j => mR M a j)))))
  else .inl (cy 4, mN M a, .inr (.inr (.inr (.inr (fun j => mR M a j)))))
def qW (cy : Nat → ClassId) (M : qM) : va_W := va_pl (mP M) (qC cy M)
def qT (cy : Nat → ClassId) : List (ClassId × FieldType) := [(cy 0, .int), (cy 1, .long), (cy 2, .boolean), (cy 3, .object RX1), (cy 4, .object RX3)]
theorem qC_o {cy : Nat → ClassId} {M : qM} {a ci : Nat} (h : mK M a = ci) (hc : ci < 6) : qC cy M a = .inr (ci, qF ci M a) := by
  subst h; unfold qC; rw [if_pos hc]
theorem qC_I {cy : Nat → ClassId} {M : qM} {a : Nat} (h : mK M a = 6) : qC cy M a = .inl (cy 0, mN M a, .inl (fun j => qI (mI M a j))) := by simp [qC, h]
theorem qC_J {cy : Nat → ClassId} {M : qM} {a : Nat} (h : mK M a = 7) : qC cy M a = .inl (cy 1, mN M a, .inr (.inl (fun j => qL (mL M a j)))) := by simp [qC, h]
theorem qC_Z {cy : Nat → ClassId} {M : qM} {a : Nat} (h : mK M a = 8) : qC cy M a = .inl (cy 2, mN M a, .inl (fun j => qI (mI M a j))) := by simp [qC, h]
theorem qC_F {cy : Nat → ClassId} {M : qM} {a : Nat} (h : mK M a = 9) : qC cy M a = .inl (cy 3, mN M a, .inr (.inr (.inr (.inr (fun j => mR M a j))))) := by simp [qC, h]
theorem qC_R {cy : Nat → ClassId} {M : qM} {a : Nat} (h : mK M a = 10) : qC cy M a = .inl (cy 4, mN M a, .inr (.inr (.inr (.inr (fun j => mR M a j))))) := by simp [qC, h]
theorem qF_loc {M M' : qM} {b : Nat} (ci : Nat) (hI : mI M' b = mI M b) (hL : mL M' b = mL M b) (hR : mR M' b = mR M b) : qF ci M' b = qF ci M b := by
  unfold qF; split <;> simp only [hI, hL, hR]
theorem qC_loc {cy : Nat → ClassId} {M M' : qM} {b : Nat} (hK : mK M' b = mK M b) (hN : mN M' b = mN M b) (hI : mI M' b = mI M b) (hL : mL M' b = mL M b) (hR : mR M' b = mR M b) : qC cy M' b = qC cy M b := by
  unfold qC; rw [hK, hN, hI, hL, hR, qF_loc _ hI hL hR]
theorem up2_row {α : Type} (f : Nat → Nat → α) {a k b : Nat} (v : α) (h : b ≠ a) : up2 f a k v b = f b := by funext j; exact up2_a f v h
theorem qC_sI {cy : Nat → ClassId} {M : qM} {a b k : Nat} {z : Int} (h : b ≠ a) : qC cy (sI M a k z) b = qC cy M b := qC_loc rfl rfl (up2_row _ _ h) rfl rfl
theorem qC_sL {cy : Nat → ClassId} {M : qM} {a b k : Nat} {z : Int} (h : b ≠ a) : qC cy (sL M a k z) b = qC cy M b := qC_loc rfl rfl rfl (up2_row _ _ h) rfl
theorem qC_sR {cy : Nat → ClassId} {M : qM} {a b k : Nat} {z : Option Nat} (h : b ≠ a) : qC cy (sR M a k z) b = qC cy M b := qC_loc rfl rfl rfl rfl (up2_row _ _ h)
theorem qC_sN {cy : Nat → ClassId} {M : qM} {a b ki n : Nat} (h : b ≠ a) : qC cy (sN M a ki n) b = qC cy M b := qC_loc (by simp [sN, mK, va_up, h]) (by simp [sN, mN, va_up, h]) (by simp [sN, mI, va_up, h]) (by simp [sN, mL, va_up, h]) (by simp [sN, mR, va_up, h])
theorem qW_get {cy : Nat → ClassId} {M : qM} {a : Nat} (h : a ∈ mP M) : ∃ k : Nat, (qW cy M)[k]? = some (a, qC cy M a) := by
  obtain ⟨k, hk⟩ := va_pl_get (X := []) (f := qC cy M) h
  exact ⟨k, hk⟩
theorem qW_set {cy : Nat → ClassId} {A : Nat → Prop} {M M' : qM} {a k : Nat} (hD : va_D A (qW cy M)) (h : a ∈ mP M) (hk : (qW cy M)[k]? = some (a, qC cy M a)) (hp : mP M' = mP M) (ho : ∀ b, b ≠ a → qC cy M' b = qC cy M b) : (qW cy M).set k (a, qC cy M' a) = qW cy M' := by
  have h1 := va_pl_set (X := []) (e := qC cy M' a) (A := A) (L := mP M) (f := qC cy M) hD h hk
  refine Eq.trans h1 ?_
  show [] ++ va_pl (mP M) _ = va_pl (mP M') _
  rw [hp, List.nil_append]
  refine va_pl_congr (fun b => ?_)
  by_cases hb : b = a
  · subst hb; simp [va_up]
  · simp only [va_up, if_neg hb]; exact (ho b hb).symm
theorem qD_of {A : Nat → Prop} {L : List Nat} {f g : Nat → va_E} (h : va_D A (va_pl L f)) : va_D A (va_pl L g) := by
  have e : ∀ (k : Nat) (q : Nat × va_E), (va_pl L g)[k]? = some q → ∃ q', (va_pl L f)[k]? = some q' ∧ q'.1 = q.1 := by
    intro k q hq
    simp only [va_pl, List.getElem?_map] at hq ⊢
    cases hL : L[k]? with
    | none => rw [hL] at hq; cases hq
    | some a => rw [hL] at hq; cases hq; exact ⟨_, rfl, rfl⟩
  refine ⟨fun i j p q hp hq hpq => ?_, fun k q hq => ?_⟩
  · obtain ⟨p', h1, h2⟩ := e i p hp
    obtain ⟨q', h3, h4⟩ := e j q hq
    exact h.1 i j p' q' h1 h3 (by rw [h2, h4, hpq])
  · obtain ⟨q', h1, h2⟩ := e k q hq
    rw [← h2]; exact h.2 k q' h1
theorem qD_in {A : Nat → Prop} {cy : Nat → ClassId} {M : qM} {a : Nat} (h : va_D A (qW cy M)) (ha : a ∈ mP M) : A a := by
  obtain ⟨k, hk⟩ := qW_get (cy := cy) ha
  exact h.2 k _ hk
theorem qP_lt {D : va_G} {cl : List vw_C} {cy : Nat → ClassId} {M : qM} {H : Heap} {a : Nat} (hP : va_P D cl (qW cy M) H) (ha : a ∈ mP M) : a < H.size := by
  obtain ⟨k, hk⟩ := qW_get (cy := cy) ha
  exact (hP k _ hk).lt
/-- which cells a method may change: the pool's, and new ones -/
def qA (P : List Nat) (sz : Nat) : Nat → Prop := fun q => q ∈ P ∨ sz ≤ q
theorem qD_self {A : Nat → Prop} {cy : Nat → ClassId} {M : qM} {sz : Nat} (h : va_D A (qW cy M)) : va_D (qA (mP M) sz) (qW cy M) := by
  refine ⟨h.1, fun k q hq => Or.inl ?_⟩
  simp only [qW, va_pl, List.getElem?_map] at hq
  cases hL : (mP M)[k]? with
  | none => rw [hL] at hq; cases hq
  | some a => rw [hL] at hq; cases hq; exact List.mem_of_getElem? hL
theorem fs_0_0 (M : qM) (a : Nat) (z : Int) : (qF 0 M a).set 0 (.long (qL z)) = qF 0 (sL M a 0 z) a := by simp [qF, sL, up2, mI, mL, mR]
theorem fs_0_1 (M : qM) (a : Nat) (z : Int) : (qF 0 M a).set 1 (.long (qL z)) = qF 0 (sL M a 1 z) a := by simp [qF, sL, up2, mI, mL, mR]
theorem fs_0_2 (M : qM) (a : Nat) (z : Int) : (qF 0 M a).set 2 (.long (qL z)) = qF 0 (sL M a 2 z) a := by simp [qF, sL, up2, mI, mL, mR]
theorem fs_1_0 (M : qM) (a : Nat) (z : Int) : (qF 1 M a).set 0 (.long (qL z)) = qF 1 (sL M a 0 z) a := by simp [qF, sL, up2, mI, mL, mR]
theorem fs_1_1 (M : qM) (a : Nat) (z : Int) : (qF 1 M a).set 1 (.long (qL z)) = qF 1 (sL M a 1 z) a := by simp [qF, sL, up2, mI, mL, mR]
theorem fs_1_2 (M : qM) (a : Nat) (z : Int) : (qF 1 M a).set 2 (.long (qL z)) = qF 1 (sL M a 2 z) a := by simp [qF, sL, up2, mI, mL, mR]
theorem fs_2_0 (M : qM) (a : Nat) (z : Int) : (qF 2 M a).set 0 (.int (qI z)) = qF 2 (sI M a 0 z) a := by simp [qF, sI, up2, mI, mL, mR]
theorem fs_2_1 (M : qM) (a : Nat) (z : Option Nat) : (qF 2 M a).set 1 (va_rf z) = qF 2 (sR M a 1 z) a := by simp [qF, sR, up2, mI, mL, mR]
theorem fs_2_2 (M : qM) (a : Nat) (z : Option Nat) : (qF 2 M a).set 2 (va_rf z) = qF 2 (sR M a 2 z) a := by simp [qF, sR, up2, mI, mL, mR]
theorem fs_2_3 (M : qM) (a : Nat) (z : Option Nat) : (qF 2 M a).set 3 (va_rf z) = qF 2 (sR M a 3 z) a := by simp [qF, sR, up2, mI, mL, mR]
theorem fs_2_4 (M : qM) (a : Nat) (z : Option Nat) : (qF 2 M a).set 4 (va_rf z) = qF 2 (sR M a 4 z) a := by simp [qF, sR, up2, mI, mL, mR]
theorem fs_2_5 (M : qM) (a : Nat) (z : Option Nat) : (qF 2 M a).set 5 (va_rf z) = qF 2 (sR M a 5 z) a := by simp [qF, sR, up2, mI, mL, mR]
theorem fs_2_6 (M : qM) (a : Nat) (z : Option Nat) : (qF 2 M a).set 6 (va_rf z) = qF 2 (sR M a 6 z) a := by simp [qF, sR, up2, mI, mL, mR]
theorem fs_2_7 (M : qM) (a : Nat) (z : Option Nat) : (qF 2 M a).set 7 (va_rf z) = qF 2 (sR M a 7 z) a := by simp [qF, sR, up2, mI, mL, mR]
theorem fs_2_8 (M : qM) (a : Nat) (z : Option Nat) : (qF 2 M a).set 8 (va_rf z) = qF 2 (sR M a 8 z) a := by simp [qF, sR, up2, mI, mL, mR]
theorem fs_2_9 (M : qM) (a : Nat) (z : Option Nat) : (qF 2 M a).set 9 (va_rf z) = qF 2 (sR M a 9 z) a := by simp [qF, sR, up2, mI, mL, mR]
theorem fs_3_0 (M : qM) (a : Nat) (z : Int) : (qF 3 M a).set 0 (.int (qI z)) = qF 3 (sI M a 0 z) a := by simp [qF, sI, up2, mI, mL, mR]
theorem fs_3_1 (M : qM) (a : Nat) (z : Int) : (qF 3 M a).set 1 (.int (qI z)) = qF 3 (sI M a 1 z) a := by simp [qF, sI, up2, mI, mL, mR]
theorem fs_3_2 (M : qM) (a : Nat) (z : Int) : (qF 3 M a).set 2 (.int (qI z)) = qF 3 (sI M a 2 z) a := by simp [qF, sI, up2, mI, mL, mR]
theorem fs_3_3 (M : qM) (a : Nat) (z : Int) : (qF 3 M a).set 3 (.int (qI z)) = qF 3 (sI M a 3 z) a := by simp [qF, sI, up2, mI, mL, mR]
theorem fs_3_4 (M : qM) (a : Nat) (z : Int) : (qF 3 M a).set 4 (.int (qI z)) = qF 3 (sI M a 4 z) a := by simp [qF, sI, up2, mI, mL, mR]
theorem fs_3_5 (M : qM) (a : Nat) (z : Int) : (qF 3 M a).set 5 (.int (qI z)) = qF 3 (sI M a 5 z) a := by simp [qF, sI, up2, mI, mL, mR]
theorem fs_3_6 (M : qM) (a : Nat) (z : Option Nat) : (qF 3 M a).set 6 (va_rf z) = qF 3 (sR M a 6 z) a := by simp [qF, sR, up2, mI, mL, mR]
theorem fs_3_7 (M : qM) (a : Nat) (z : Option Nat) : (qF 3 M a).set 7 (va_rf z) = qF 3 (sR M a 7 z) a := by simp [qF, sR, up2, mI, mL, mR]
theorem fs_3_8 (M : qM) (a : Nat) (z : Option Nat) : (qF 3 M a).set 8 (va_rf z) = qF 3 (sR M a 8 z) a := by simp [qF, sR, up2, mI, mL, mR]
theorem fs_4_0 (M : qM) (a : Nat) (z : Option Nat) : (qF 4 M a).set 0 (va_rf z) = qF 4 (sR M a 0 z) a := by simp [qF, sR, up2, mI, mL, mR]
theorem fs_4_1 (M : qM) (a : Nat) (z : Option Nat) : (qF 4 M a).set 1 (va_rf z) = qF 4 (sR M a 1 z) a := by simp [qF, sR, up2, mI, mL, mR]
theorem fs_4_2 (M : qM) (a : Nat) (z : Option Nat) : (qF 4 M a).set 2 (va_rf z) = qF 4 (sR M a 2 z) a := by simp [qF, sR, up2, mI, mL, mR]
theorem fs_4_3 (M : qM) (a : Nat) (z : Option Nat) : (qF 4 M a).set 3 (va_rf z) = qF 4 (sR M a 3 z) a := by simp [qF, sR, up2, mI, mL, mR]
theorem fs_4_4 (M : qM) (a : Nat) (z : Int) : (qF 4 M a).set 4 (.int (qI z)) = qF 4 (sI M a 4 z) a := by simp [qF, sI, up2, mI, mL, mR]
theorem fs_4_5 (M : qM) (a : Nat) (z : Int) : (qF 4 M a).set 5 (.int (qI z)) = qF 4 (sI M a 5 z) a := by simp [qF, sI, up2, mI, mL, mR]
theorem fs_4_6 (M : qM) (a : Nat) (z : Option Nat) : (qF 4 M a).set 6 (va_rf z) = qF 4 (sR M a 6 z) a := by simp [qF, sR, up2, mI, mL, mR]
theorem fs_5_0 (M : qM) (a : Nat) (z : Int) : (qF 5 M a).set 0 (.int (qI z)) = qF 5 (sI M a 0 z) a := by simp [qF, sI, up2, mI, mL, mR]
theorem fs_5_1 (M : qM) (a : Nat) (z : Int) : (qF 5 M a).set 1 (.long (qL z)) = qF 5 (sL M a 1 z) a := by simp [qF, sL, up2, mI, mL, mR]
theorem fs_5_2 (M : qM) (a : Nat) (z : Option Nat) : (qF 5 M a).set 2 (va_rf z) = qF 5 (sR M a 2 z) a := by simp [qF, sR, up2, mI, mL, mR]
theorem fs_5_3 (M : qM) (a : Nat) (z : Option Nat) : (qF 5 M a).set 3 (va_rf z) = qF 5 (sR M a 3 z) a := by simp [qF, sR, up2, mI, mL, mR]
theorem fs_5_4 (M : qM) (a : Nat) (z : Option Nat) : (qF 5 M a).set 4 (va_rf z) = qF 5 (sR M a 4 z) a := by simp [qF, sR, up2, mI, mL, mR]
theorem fs_5_5 (M : qM) (a : Nat) (z : Option Nat) : (qF 5 M a).set 5 (va_rf z) = qF 5 (sR M a 5 z) a := by simp [qF, sR, up2, mI, mL, mR]
theorem fs_5_6 (M : qM) (a : Nat) (z : Int) : (qF 5 M a).set 6 (.int (qI z)) = qF 5 (sI M a 6 z) a := by simp [qF, sI, up2, mI, mL, mR]
theorem fs_5_7 (M : qM) (a : Nat) (z : Int) : (qF 5 M a).set 7 (.int (qI z)) = qF 5 (sI M a 7 z) a := by simp [qF, sI, up2, mI, mL, mR]
theorem fs_5_8 (M : qM) (a : Nat) (z : Option Nat) : (qF 5 M a).set 8 (va_rf z) = qF 5 (sR M a 8 z) a := by simp [qF, sR, up2, mI, mL, mR]
theorem fs_5_9 (M : qM) (a : Nat) (z : Int) : (qF 5 M a).set 9 (.int (qI z)) = qF 5 (sI M a 9 z) a := by simp [qF, sI, up2, mI, mL, mR]
theorem fs_5_10 (M : qM) (a : Nat) (z : Int) : (qF 5 M a).set 10 (.int (qI z)) = qF 5 (sI M a 10 z) a := by simp [qF, sI, up2, mI, mL, mR]
theorem fs_5_11 (M : qM) (a : Nat) (z : Int) : (qF 5 M a).set 11 (.int (qI z)) = qF 5 (sI M a 11 z) a := by simp [qF, sI, up2, mI, mL, mR]
/-! the surroundings -/
def qXk : Cond → Bool
  | .fieldLinkNest .. => true
  | .methodLinkNest .. => true
  | .castable .. => true
  | .declares .. => true
  | .privateMethod .. => true
  | .arrayOver (.object _) => true
  | _ => false
def qX : List Cond := tables_1.filter qXk
theorem qX_i {w : Cond} (i : Nat) (h : tables_1[i]? = some w) (hg : qXk w = true) : w ∈ qX := List.mem_filter.mpr ⟨List.mem_of_getElem? h, hg⟩
theorem qX_warm {w : Cond} (hk : qXk w = true) {s U : State} (hW : s.WarmedH U.vm) (h : va_Nw w s) : va_Nw w U := by
  by_cases ho : ∃ n, w = .arrayOver (.object n)
  · obtain ⟨n, rfl⟩ := ho
    exact Cond.arrayOver_alike hW.alike h
  cases w <;> first | exact Bool.noConfusion hk | skip
  all_goals first | (rename_i ty; cases ty <;> first | exact Bool.noConfusion hk | exact absurd ⟨_, rfl⟩ ho) | exact va_Nw.warmF hW h | exact va_Nw.warmM hW h | exact va_Nw.warmC hW h | exact Cond.privateMethod_warm hW h | exact va_tabs (A := #[]) rfl (rfl : (s.setVm U.vm).vm = U.vm) ((Cond.declares_setVm hW.alike _).trans h)
def qStr : List (Nat × String) := [(49, "d is not 7 .. 1000000000 and 7 modulo 8"), (56, "a round is running"), (216, "there is no discriminant yet"), (218, "not 1 .. 500"), (69, "a round is running, or the book is full"), (117, "no squarings are left"), (133, "squarings are left, or no steps are"), (139, "no round is ready to be booked"), (229, "there is no such round"), (147, "what is not 0 .. 2"), (222, "a form has parts 0 .. 2"), (157, "which is not 0 .. 2"), (220, "the buffer has forms 0 .. 2"), (179, "there is no such form"), (226, "there is no such form in the buffer"), (191, "n is below 0"), (201, "most is not 1 .. 1000"), (211, "d is above 50000")]
def qE (D : va_G) (cy : Nat → ClassId) (A : Nat → Prop) (U : State) : Prop :=
  va_K D vwCl (qT cy) U ∧ (∀ w ∈ qX, va_Nw w U) ∧ vx_Zq Bundle.tN "UNASSIGNED_STACK" Bundle.steD A U U.heap ∧ vx_Zq Bundle.tN "SUPPRESSED_SENTINEL" Bundle.listD A U U.heap ∧ ∀ q ∈ qStr, ∃ sa, vk_R RX4 q.1 q.2 sa U
theorem qE_call {D : va_G} {cy : Nat → ClassId} {A B : Nat → Prop} {s U : State} {H : Heap} {locs : List Loc} (h : qE D cy A s) (hS : va_S A s.heap H locs) (hU : U.heap = H) (hW : s.WarmedH U.vm) (hB : ∀ q, B q → A q) : qE D cy B U := by
  obtain ⟨h1, h2, h3, h4, h5⟩ := h
  refine ⟨va_K.moved hW.alike h1, fun w hw => qX_warm (List.mem_filter.mp hw).2 hW (h2 w hw), ?_, ?_, fun q hq => ?_⟩
  · rw [hU]; exact (vx_Zq.moved hW.alike (vx_Zq.kept h3 hS.2.1)).narrow hB
  · rw [hU]; exact (vx_Zq.moved hW.alike (vx_Zq.kept h4 hS.2.1)).narrow hB
  · obtain ⟨sa, hsa⟩ := h5 q hq
    exact ⟨sa, vk_R.warm hW hsa⟩
theorem qE_frame {D : va_G} {cy : Nat → ClassId} {A : Nat → Prop} {U : State} (h : qE D cy A U) (g : JFrame) (mk : MethodId) (a : Array Value) : qE D cy A (U.calling g mk a) := by
  obtain ⟨h1, h2, h3, h4, h5⟩ := h
  refine ⟨va_K.moved (u := U) (U := U.calling g mk a) (Vm.Alike.refl U.vm) h1, fun w hw => qX_warm (List.mem_filter.mp hw).2 (s := U) (U := U.calling g mk a) (State.WarmedH.refl U) (h2 w hw), vx_Zq.moved (u := U) (U := U.calling g mk a) (Vm.Alike.refl U.vm) h3, vx_Zq.moved (u := U) (U := U.calling g mk a) (Vm.Alike.refl U.vm) h4, fun q hq => ?_⟩
  · obtain ⟨sa, hsa⟩ := h5 q hq
    exact ⟨sa, vk_R.warm (s := U) (U := U.calling g mk a) (State.WarmedH.refl U) hsa⟩
