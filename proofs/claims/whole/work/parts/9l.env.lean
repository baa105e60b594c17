/-! what the law's entry gives: classes, words, statics, strings, pairs that are not castable -/
theorem env_c {args : Array Value} {s : State} (hts : ∀ w ∈ lw_tbl, w.before args s = true) : ∃ D : va_G, ∀ (c : Nat) (q : vw_C), vwCl[c]? = some q → u_Kn s q.1 q.2.1 q.2.2 (D.1 c) (D.2 c) := by
  obtain ⟨c0, i0, k0⟩ := u_known (ws := lw_tbl) (C := RX0) (T := TX0) (N := 3) (n := 3) hts (by decide +kernel) (hts _ (by decide +kernel))
  obtain ⟨c1, i1, k1⟩ := u_known (ws := lw_tbl) (C := RX1) (T := TX1) (N := 3) (n := 3) hts (by decide +kernel) (hts _ (by decide +kernel))
  obtain ⟨c2, i2, k2⟩ := u_known (ws := lw_tbl) (C := RX2) (T := TX2) (N := 10) (n := 10) hts (by decide +kernel) (hts _ (by decide +kernel))
  obtain ⟨c3, i3, k3⟩ := u_known (ws := lw_tbl) (C := RX3) (T := TX3) (N := 9) (n := 9) hts (by decide +kernel) (hts _ (by decide +kernel))
  obtain ⟨c4, i4, k4⟩ := u_known (ws := lw_tbl) (C := RX4) (T := TX4) (N := 7) (n := 7) hts (by decide +kernel) (hts _ (by decide +kernel))
  obtain ⟨c5, i5, k5⟩ := u_known (ws := lw_tbl) (C := RX5) (T := TX5) (N := 12) (n := 12) hts (by decide +kernel) (hts _ (by decide +kernel))
  refine ⟨(fun c => match c with | 0 => c0 | 1 => c1 | 2 => c2 | 3 => c3 | 4 => c4 | _ => c5, fun c => match c with | 0 => i0 | 1 => i1 | 2 => i2 | 3 => i3 | 4 => i4 | _ => i5), fun c q hq => ?_⟩
  match c, hq with
  | 0, hq => cases hq; exact k0
  | 1, hq => cases hq; exact k1
  | 2, hq => cases hq; exact k2
  | 3, hq => cases hq; exact k3
  | 4, hq => cases hq; exact k4
  | 5, hq => cases hq; exact k5
  | n + 6, hq => exact absurd hq (by simp [vwCl])
theorem env_p {args : Array Value} {s : State} {ty : FieldType} (h : (Cond.arrayClass ty).before args s = true) (hp : ∀ k, ty ≠ .object k) (ha : ∀ t, ty ≠ .array t) : ∃ cA, ArrOfT s cA ty ∧ s.vm.findClass ("[" ++ ty.toString) = some cA := by
  obtain ⟨cA, k, comp, f1, f2, f3⟩ := Cond.arrayClass_spec h
  exact ⟨cA, fun N z => ⟨fun k h => by first | cases h | exact absurd h (hp k), k, f2, comp, f3⟩, f1⟩
theorem env_X {args : Array Value} {s : State} (hts : ∀ w ∈ lw_tbl, w.before args s = true) (ho : ∀ w ∈ qX, w.onTables = true ∨ ∃ n, w = .arrayOver (.object n)) : ∀ w ∈ qX, va_Nw w s := fun w hw => by
  have h := hts w (List.mem_append_right _ (List.mem_filter.mp hw).1)
  rcases ho w hw with h1 | ⟨n, rfl⟩
  · exact va_Nw.of h1 h
  · exact h
theorem env_N {args : Array Value} {s : State} (h : (Jvm.Cond.and given_1 narrow_1).before args s = true) : qNs s := by
  have hs := flat_of_before _ h
  intro q hq
  have h1 : ∀ q ∈ qNl, (Cond.not (.castable q.1 q.2)).before args s = true := by
    intro q hq
    simp only [qNl, List.mem_cons, List.not_mem_nil, or_false] at hq
    rcases hq with rfl | rfl | rfl | rfl | rfl | rfl | rfl | rfl | rfl | rfl | rfl | rfl
    all_goals exact hs _ (by decide +kernel)
  exact va_Nc.of (h1 q hq)
