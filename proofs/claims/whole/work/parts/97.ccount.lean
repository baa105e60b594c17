theorem odd_sq {b d : Int} (hb : b % 2 = 1) (hd : d % 8 = 7) : (b * b + d) % 4 = 0 := by
  obtain ⟨k, hk⟩ : ∃ k, b = 2 * k + 1 := ⟨b / 2, by omega⟩
  have h1 : b * b = 4 * (k * k + k) + 1 := by rw [hk]; grind
  omega
theorem cc_dv {a m : Int} (ha : 1 ≤ a) (h4 : m % 4 = 0) : (m / 4 % a = 0 ↔ m % (4 * a) = 0) ∧ m / 4 / a = m / (4 * a) := by
  obtain ⟨k, hk⟩ : ∃ k, m = 4 * k := ⟨m / 4, by omega⟩
  have h1 : m / 4 = k := by omega
  refine ⟨?_, ?_⟩
  · rw [h1, hk, Int.mul_emod_mul_of_pos _ _ (by decide : (0 : Int) < 4)]; omega
  · rw [h1, hk, Int.mul_ediv_mul_of_pos _ _ (by decide : (0 : Int) < 4)]
def ccO (ad : Nat → Nat) (M : qM) (d b n : Int) (L : Nat → Nat → Int) : Prop := (1 ≤ b ∧ b ≤ 131 ∧ b % 2 = 1) ∧ frA ad (mL M) L [4] ∧ n + smZ (fun b => smZ (fun a => wgI d a b) 1 130) b (131 - b).toNat = cntN d
def ccI (ad : Nat → Nat) (M : qM) (d b a n : Int) (L : Nat → Nat → Int) : Prop := ((1 ≤ b ∧ b ≤ 129 ∧ b % 2 = 1 ∧ 3 * (b * b) ≤ d) ∧ b ≤ a ∧ a ≤ 131) ∧ frA ad (mL M) L [4] ∧ n + smZ (fun a => wgI d a b) a (131 - a).toNat + smZ (fun b => smZ (fun a => wgI d a b) 1 130) (b + 2) (129 - b).toNat = cntN d
theorem ccI_in {ad : Nat → Nat} {M : qM} {d b n : Int} {L : Nat → Nat → Int} (hd : d % 8 = 7) (hd5 : d ≤ 50000) (h : ccO ad M d b n L) (h2 : 3 * (b * b) ≤ d) : ccI ad M d b b n L := by
  obtain ⟨⟨h3, h4, h7⟩, h5, h6⟩ := h
  have h10 := rd_sq (a := b) (n := 129) (by decide) h2 (by omega)
  refine ⟨⟨⟨h3, by omega, h7, h2⟩, by omega, by omega⟩, h5, ?_⟩
  rw [show (131 - b).toNat = (129 - b).toNat + 2 by omega, cnt_two hd h7, col_b h3 (by omega)] at h6
  omega
theorem ccI_out {ad : Nat → Nat} {M : qM} {d b a n : Int} {L : Nat → Nat → Int} (h : ccI ad M d b a n L) (h2 : b * b + d < 4 * (a * a)) : ccO ad M d (b + 2) n L := by
  obtain ⟨⟨⟨h3, h4, h7, h8⟩, h9, h10⟩, h5, h6⟩ := h
  refine ⟨⟨by omega, by omega, by omega⟩, h5, ?_⟩
  rw [col_out (show 1 ≤ a by omega) h2] at h6
  rw [show (131 - (b + 2)).toNat = (129 - b).toNat by omega]; omega
theorem ccI_le {ad : Nat → Nat} {M : qM} {d b a n : Int} {L : Nat → Nat → Int} (hd5 : d ≤ 50000) (h : ccI ad M d b a n L) (h2 : 4 * (a * a) ≤ b * b + d) : a ≤ 129 := rd_sq (m := d) (by decide) (by have := h.1.1.2.2.2; omega) (by omega)
theorem ccI_st {ad : Nat → Nat} {M : qM} {d b a n n' : Int} {L L' : Nat → Nat → Int} (hd5 : d ≤ 50000) (h : ccI ad M d b a n L) (h2 : 4 * (a * a) ≤ b * b + d) (hn : n' = n + wgI d a b) (hL : frA ad (mL M) L' [4]) : ccI ad M d b (a + 1) n' L' := by
  have h11 := ccI_le hd5 h h2
  obtain ⟨⟨⟨h3, h4, h7, h8⟩, h9, h10⟩, h5, h6⟩ := h
  refine ⟨⟨⟨h3, h4, h7, h8⟩, by omega, by omega⟩, hL, ?_⟩
  rw [smZ_1 _ a (show (131 - a).toNat = (131 - (a + 1)).toNat + 1 by omega)] at h6
  omega
def poCnt (M : qM) (ad : Nat → Nat) (d : Int) : Option Value → qM → Prop := fun v M' => v = some (.int (qI (cntN d))) ∧ ∃ L, M' = wL M L ∧ frA ad (mL M) L [4]
set_option maxRecDepth 100000 in
set_option maxHeartbeats 4000000 in
theorem l_cnt_i {p : Program} {e : Env} {s : State} {m : MethodId} {args : Array Value} {below : List Frame} {meth : Method} {c : Code} (l : Launch) (D : va_G) (cy : Nat → ClassId) (M : qM) (ad : Nat → Nat) (hC : CSt M ad) (dd : Int) (hd : mI M (ad 1) 0 = dd) (hd1 : 7 ≤ dd ∧ dd ≤ 50000 ∧ dd % 8 = 7) (b : Int) (G : qG p s m args meth c cX2_countReduced 8 yX2_countReduced.cls D cy (qA (mP M) s.heap.size)) (hret : meth.sig.returnType = (some .int)) (Hk : ∀ (n : Int) (L : Nat → Nat → Int), ccO ad M dd (b + 2) n L → qK p l e { frames := 3, cells := 0, slots := 0, locals := 86 } s m args below meth c (MQ below (qQ D cy (mP M) (poCnt M ad dd)) args s 0 0 (qA (mP M) s.heap.size)) 8 D cy (qA (mP M) s.heap.size) 0 0 113 [(2, .long (qL (b))), (1, .int (qI (n))), (0, .ref (ad 1))] [] (wL M L)) : ∀ (w9 : Nat) (a : Int) (n : Int) (L : Nat → Nat → Int), (132 - a).toNat < w9 → ccI ad M dd b a n L → qK p l e { frames := 3, cells := 0, slots := 0, locals := 86 } s m args below meth c (MQ below (qQ D cy (mP M) (poCnt M ad dd)) args s 0 0 (qA (mP M) s.heap.size)) 8 D cy (qA (mP M) s.heap.size) 0 0 38 [(6, .long (qL (a))), (4, .long (qL ((b * b + dd) / 4))), (2, .long (qL (b))), (1, .int (qI (n))), (0, .ref (ad 1))] [] (wL M L) := by
  intro w9
  induction w9 with
  | zero => intro a n L h9; exact absurd h9 (Nat.not_lt_zero _)
  | succ w9 ih =>
    intro a n L hm hI
    have o1 := CS_fo hC
    have hd7 := hd1.2.2
    obtain ⟨⟨⟨b1, b2, b3, b4⟩, a1, a2⟩, fa, hs⟩ := id hI
    have q4 := odd_sq b3 hd7
    have hb0 := sq_nn b
    have hb2 := sq_le (x := b) (n := 130) (by omega) (by omega)
    have ha0 := sq_nn a
    have ha2 := sq_le (x := a) (n := 131) (by omega) (by omega)
    clear hs
    obtain ⟨v1, v2⟩ := cc_dv (a := a) (m := b * b + dd) (by omega) q4
    have v3 := Int.ediv_nonneg (show 0 ≤ (b * b + dd) / 4 by omega) (show 0 ≤ a by omega)
    have v4 := Int.ediv_le_self a (show 0 ≤ (b * b + dd) / 4 by omega)
    have v5 := Int.emod_nonneg ((b * b + dd) / 4) (show a ≠ 0 by omega)
    have v6 := Int.emod_lt_of_pos ((b * b + dd) / 4) (show 0 < a by omega)
    refine q_lload G 0 dX2_countReduced_38 rfl ?_
    refine q_lload G 0 dX2_countReduced_40 rfl ?_
    refine q_lmul G dX2_countReduced_42 ?_
    refine q_lload G 1 dX2_countReduced_43 rfl ?_
    refine q_lcmp_gt (tgt := 113) G dX2_countReduced_45 dX2_countReduced_46 (by decide) (by clear v1; omega) (by clear v1; omega) (fun c1 => ?_) (fun c1 => ?_)
    · refine q_lvs [2, 3, 4] rfl ?_
      exact Hk n L (ccI_out hI (by clear v1; omega))
    · refine q_lload G 1 dX2_countReduced_49 rfl ?_
      refine q_lload G 0 dX2_countReduced_51 rfl ?_
      refine q_callSN (As := [.long (qL ((b * b + dd) / 4)), .long (qL (a))]) (rest := []) G dX2_countReduced_53 cw_X2_76 (c_X4_remainder l D cy (wL M L) ((b * b + dd) / 4) a (by clear v1; omega) (by clear v1; omega)) rfl rfl (Nat.le_of_ble_eq_true rfl) rfl rfl ⟨Nat.le_of_ble_eq_true rfl, Nat.le_of_ble_eq_true rfl⟩ ⟨by decide, by decide⟩ (fun v9 M9 hq9 => ?_)
      obtain ⟨rfl, e9⟩ := hq9
      refine q_mem e9 ?_
      refine q_st (st2 := [.long (qL (rmd ((b * b + dd) / 4) a))]) rfl ?_
      have hrm : rmd ((b * b + dd) / 4) a = (b * b + dd) / 4 % a := rmd_mod (by clear v1; omega)
      refine q_lconst (z := 0) G dX2_countReduced_56 (by decide +kernel) ?_
      refine q_lcmp_ne (tgt := 104) G dX2_countReduced_57 dX2_countReduced_58 (by decide) (by clear v1; omega) (by clear v1; omega) (fun c2 => ?_) (fun c2 => ?_)
      · refine q_lload G 0 dX2_countReduced_104 rfl ?_
        refine q_lconst (z := 1) G dX2_countReduced_106 (by decide +kernel) ?_
        refine q_ladd G dX2_countReduced_107 ?_
        refine q_lstore (lv' := [(6, .long (qL (a + 1))), (4, .long (qL ((b * b + dd) / 4))), (2, .long (qL (b))), (1, .int (qI (n))), (0, .ref (ad 1))]) G dX2_countReduced_108 (by decide) rfl ?_
        refine q_goto (tgt := 38) G dX2_countReduced_110 (by decide) ?_
        have hz9 : wgI dd a b = 0 := wg_not (fun h9 => by have h8 := v1.mpr h9.1; rw [← hrm] at h8; exact absurd h8 (by assumption))
        refine q_lvs [0, 1, 2, 3, 4] rfl ?_
        exact ih (a + 1) (n) (L) (by clear v1; omega) (ccI_st hd1.2.1 hI (by clear v1; omega) (by rw [hz9]; clear v1; omega) fa)
      · refine q_aload_n G 4 0 dX2_countReduced_61 rfl rfl ?_
        refine q_lload G 0 dX2_countReduced_62 rfl ?_
        refine q_lload_n G 2 2 dX2_countReduced_64 rfl rfl ?_
        refine q_lload G 1 dX2_countReduced_65 rfl ?_
        refine q_lload G 0 dX2_countReduced_67 rfl ?_
        refine q_callSN (As := [.long (qL ((b * b + dd) / 4)), .long (qL (a))]) (rest := [.long (qL (b)), .long (qL (a)), .ref (ad 1)]) G dX2_countReduced_69 cw_X2_69 (c_X4_quotient l D cy (wL M L) ((b * b + dd) / 4) a (by clear v1; omega) (by clear v1; omega)) rfl rfl (Nat.le_of_ble_eq_true rfl) rfl rfl ⟨Nat.le_of_ble_eq_true rfl, Nat.le_of_ble_eq_true rfl⟩ ⟨by decide, by decide⟩ (fun v9 M9 hq9 => ?_)
        obtain ⟨rfl, e9⟩ := hq9
        refine q_mem e9 ?_
        refine q_st (st2 := [.long (qL (quo ((b * b + dd) / 4) a)), .long (qL (b)), .long (qL (a)), .ref (ad 1)]) rfl ?_
        have hqu : quo ((b * b + dd) / 4) a = (b * b + dd) / 4 / a := by unfold quo; rw [if_neg (by clear v1; omega)]; exact Int.tdiv_eq_ediv_of_nonneg (by clear v1; omega)
        refine q_callV (As := [.long (qL (a)), .long (qL (b)), .long (qL (quo ((b * b + dd) / 4) a))]) (rest := []) G dX2_countReduced_72 cw_X2_79 (c_X2_hasNoCommonDivisor l D cy (wL M L) (ad 1) (ad 4) o1 (hC.2.2.2.2.1 3 (by decide) (by decide)) (hC.1 4 (by decide)) a b (quo ((b * b + dd) / 4) a) (by clear v1; omega) (by clear v1; omega) (by clear v1; omega)) o1.1 o1.2 (by decide) rfl rfl rfl (Nat.le_of_ble_eq_true rfl) rfl rfl ⟨Nat.le_of_ble_eq_true rfl, Nat.le_of_ble_eq_true rfl⟩ ⟨by decide, by decide⟩ (fun v9 M9 hq9 => ?_)
        obtain ⟨z9, rfl, hz, x1, x2, x3, e9⟩ := hq9
        refine q_st (st2 := [.int (qI (z9))]) rfl ?_
        refine q_mem (M2 := wL M (stF L (ad 4) x1 x2 x3)) e9 ?_
        rw [hqu, v2] at hz
        have fb : frA ad (mL M) (stF L (ad 4) x1 x2 x3) [4] := frA_tr fa (frA_st 4 (by decide) _ _ _)
        refine q_if_eq (tgt := 104) G dX2_countReduced_75 (by decide) (by clear v1; omega) (fun c3 => ?_) (fun c3 => ?_)
        · refine q_lload G 0 dX2_countReduced_104 rfl ?_
          refine q_lconst (z := 1) G dX2_countReduced_106 (by decide +kernel) ?_
          refine q_ladd G dX2_countReduced_107 ?_
          refine q_lstore (lv' := [(6, .long (qL (a + 1))), (4, .long (qL ((b * b + dd) / 4))), (2, .long (qL (b))), (1, .int (qI (n))), (0, .ref (ad 1))]) G dX2_countReduced_108 (by decide) rfl ?_
          refine q_goto (tgt := 38) G dX2_countReduced_110 (by decide) ?_
          have hz9 : wgI dd a b = 0 := wg_not (fun h9 => by rcases hz with h8 | h8; (clear v1; omega); exact h8.2 h9.2)
          refine q_lvs [0, 1, 2, 3, 4] rfl ?_
          exact ih (a + 1) (n) (stF L (ad 4) x1 x2 x3) (by clear v1; omega) (ccI_st hd1.2.1 hI (by clear v1; omega) (by rw [hz9]; clear v1; omega) fb)
        · refine q_iload_n G 3 1 dX2_countReduced_78 rfl rfl ?_
          refine q_lload G 0 dX2_countReduced_79 rfl ?_
          refine q_lload_n G 2 2 dX2_countReduced_81 rfl rfl ?_
          refine q_lcmp_eq (tgt := 97) G dX2_countReduced_82 dX2_countReduced_83 (by decide) (by clear v1; omega) (by clear v1; omega) (fun c4 => ?_) (fun c4 => ?_)
          · refine q_iconst G dX2_countReduced_97 ?_
            refine q_goto (tgt := 102) G dX2_countReduced_98 (by decide) ?_
            refine q_iadd G dX2_countReduced_102 ?_
            refine q_istore_n (lv' := [(1, .int (qI (n + 1))), (6, .long (qL (a))), (4, .long (qL ((b * b + dd) / 4))), (2, .long (qL (b))), (0, .ref (ad 1))]) G 1 dX2_countReduced_103 rfl (by decide) rfl ?_
            refine q_lload G 1 dX2_countReduced_104 rfl ?_
            refine q_lconst (z := 1) G dX2_countReduced_106 (by decide +kernel) ?_
            refine q_ladd G dX2_countReduced_107 ?_
            refine q_lstore (lv' := [(6, .long (qL (a + 1))), (1, .int (qI (n + 1))), (4, .long (qL ((b * b + dd) / 4))), (2, .long (qL (b))), (0, .ref (ad 1))]) G dX2_countReduced_108 (by decide) rfl ?_
            refine q_goto (tgt := 38) G dX2_countReduced_110 (by decide) ?_
            have hz9 : wgI dd a b = 1 := (wg_cls hd7 b1 a1 (by clear v1 hz; omega) (v1.mp (by rw [← hrm]; assumption)) (by rcases hz with h8 | h8; exact h8.2; (clear v1; omega))).trans (if_pos (by clear v1 hz; omega))
            refine q_lvs [0, 2, 3, 1, 4] rfl ?_
            exact ih (a + 1) (n + 1) (stF L (ad 4) x1 x2 x3) (by clear v1; omega) (ccI_st hd1.2.1 hI (by clear v1; omega) (by rw [hz9]) fb)
          · refine q_lload G 0 dX2_countReduced_86 rfl ?_
            refine q_lload G 0 dX2_countReduced_88 rfl ?_
            refine q_lmul G dX2_countReduced_90 ?_
            refine q_lload G 1 dX2_countReduced_91 rfl ?_
            refine q_lcmp_ne (tgt := 101) G dX2_countReduced_93 dX2_countReduced_94 (by decide) (by clear v1; omega) (by clear v1; omega) (fun c5 => ?_) (fun c5 => ?_)
            · refine q_iconst G dX2_countReduced_101 ?_
              refine q_iadd G dX2_countReduced_102 ?_
              refine q_istore_n (lv' := [(1, .int (qI (n + 2))), (6, .long (qL (a))), (4, .long (qL ((b * b + dd) / 4))), (2, .long (qL (b))), (0, .ref (ad 1))]) G 1 dX2_countReduced_103 rfl (by decide) rfl ?_
              refine q_lload G 1 dX2_countReduced_104 rfl ?_
              refine q_lconst (z := 1) G dX2_countReduced_106 (by decide +kernel) ?_
              refine q_ladd G dX2_countReduced_107 ?_
              refine q_lstore (lv' := [(6, .long (qL (a + 1))), (1, .int (qI (n + 2))), (4, .long (qL ((b * b + dd) / 4))), (2, .long (qL (b))), (0, .ref (ad 1))]) G dX2_countReduced_108 (by decide) rfl ?_
              refine q_goto (tgt := 38) G dX2_countReduced_110 (by decide) ?_
              have hz9 : wgI dd a b = 2 := (wg_cls hd7 b1 a1 (by clear v1 hz; omega) (v1.mp (by rw [← hrm]; assumption)) (by rcases hz with h8 | h8; exact h8.2; (clear v1; omega))).trans (if_neg (by clear v1 hz; omega))
              refine q_lvs [0, 2, 3, 1, 4] rfl ?_
              exact ih (a + 1) (n + 2) (stF L (ad 4) x1 x2 x3) (by clear v1; omega) (ccI_st hd1.2.1 hI (by clear v1; omega) (by rw [hz9]) fb)
            · refine q_iconst G dX2_countReduced_97 ?_
              refine q_goto (tgt := 102) G dX2_countReduced_98 (by decide) ?_
              refine q_iadd G dX2_countReduced_102 ?_
              refine q_istore_n (lv' := [(1, .int (qI (n + 1))), (6, .long (qL (a))), (4, .long (qL ((b * b + dd) / 4))), (2, .long (qL (b))), (0, .ref (ad 1))]) G 1 dX2_countReduced_103 rfl (by decide) rfl ?_
              refine q_lload G 1 dX2_countReduced_104 rfl ?_
              refine q_lconst (z := 1) G dX2_countReduced_106 (by decide +kernel) ?_
              refine q_ladd G dX2_countReduced_107 ?_
              refine q_lstore (lv' := [(6, .long (qL (a + 1))), (1, .int (qI (n + 1))), (4, .long (qL ((b * b + dd) / 4))), (2, .long (qL (b))), (0, .ref (ad 1))]) G dX2_countReduced_108 (by decide) rfl ?_
              refine q_goto (tgt := 38) G dX2_countReduced_110 (by decide) ?_
              have hz9 : wgI dd a b = 1 := (wg_cls hd7 b1 a1 (by clear v1 hz; omega) (v1.mp (by rw [← hrm]; assumption)) (by rcases hz with h8 | h8; exact h8.2; (clear v1; omega))).trans (if_pos (by clear v1 hz; omega))
              refine q_lvs [0, 2, 3, 1, 4] rfl ?_
              exact ih (a + 1) (n + 1) (stF L (ad 4) x1 x2 x3) (by clear v1; omega) (ccI_st hd1.2.1 hI (by clear v1; omega) (by rw [hz9]) fb)
set_option maxRecDepth 100000 in
set_option maxHeartbeats 4000000 in
theorem l_cnt_o {p : Program} {e : Env} {s : State} {m : MethodId} {args : Array Value} {below : List Frame} {meth : Method} {c : Code} (l : Launch) (D : va_G) (cy : Nat → ClassId) (M : qM) (ad : Nat → Nat) (hC : CSt M ad) (dd : Int) (hd : mI M (ad 1) 0 = dd) (hd1 : 7 ≤ dd ∧ dd ≤ 50000 ∧ dd % 8 = 7) (G : qG p s m args meth c cX2_countReduced 8 yX2_countReduced.cls D cy (qA (mP M) s.heap.size)) (hret : meth.sig.returnType = (some .int)) : ∀ (w9 : Nat) (b : Int) (n : Int) (L : Nat → Nat → Int), (133 - b).toNat < w9 → ccO ad M dd b n L → qK p l e { frames := 3, cells := 0, slots := 0, locals := 86 } s m args below meth c (MQ below (qQ D cy (mP M) (poCnt M ad dd)) args s 0 0 (qA (mP M) s.heap.size)) 8 D cy (qA (mP M) s.heap.size) 0 0 4 [(2, .long (qL (b))), (1, .int (qI (n))), (0, .ref (ad 1))] [] (wL M L) := by
  intro w9
  induction w9 with
  | zero => intro b n L h9; exact absurd h9 (Nat.not_lt_zero _)
  | succ w9 ih =>
    intro b n L hm hI
    have o1 := CS_fo hC
    have hd7 := hd1.2.2
    have hdx : M.2.2.2.1 (ad 1) 0 = dd := hd
    obtain ⟨⟨b1, b2, b3⟩, fa, hs⟩ := id hI
    have htr := tri (a := b)
    have hsq := sq_le (x := b) (n := 131) (by omega) (by omega)
    have hsq0 := sq_nn b
    have ih2 : ∀ (n : Int) (L : Nat → Nat → Int), ccO ad M dd (b + 2) n L → qK p l e { frames := 3, cells := 0, slots := 0, locals := 86 } s m args below meth c (MQ below (qQ D cy (mP M) (poCnt M ad dd)) args s 0 0 (qA (mP M) s.heap.size)) 8 D cy (qA (mP M) s.heap.size) 0 0 113 [(2, .long (qL (b))), (1, .int (qI (n))), (0, .ref (ad 1))] [] (wL M L) := by
      intro n L h7
      refine q_lload_n G 0 2 dX2_countReduced_113 rfl rfl ?_
      refine q_ldc2 (z := 2) G dX2_countReduced_114 tw_284 (by decide +kernel) ?_
      refine q_ladd G dX2_countReduced_117 ?_
      refine q_lstore_n (lv' := [(2, .long (qL (b + 2))), (1, .int (qI (n))), (0, .ref (ad 1))]) G 2 dX2_countReduced_118 rfl (by decide) rfl ?_
      refine q_goto (tgt := 4) G dX2_countReduced_119 (by decide) ?_
      refine q_lvs [0, 1, 2] rfl ?_
      exact ih (b + 2) n L (by have := h7.1; omega) h7
    refine q_ldc2 (z := 3) G dX2_countReduced_4 tw_576 (by decide +kernel) ?_
    refine q_lload_n G 0 2 dX2_countReduced_7 rfl rfl ?_
    refine q_lmul G dX2_countReduced_8 ?_
    refine q_lload_n G 0 2 dX2_countReduced_9 rfl rfl ?_
    refine q_lmul G dX2_countReduced_10 ?_
    refine q_aload_n G 2 0 dX2_countReduced_11 rfl rfl ?_
    refine q_gt (v := .int (qI (dd))) G dX2_countReduced_12 fl_X2_9 o1 (by decide) rfl (by simp [mI, mL, mR, sL, sI, sR, wL, wD, stF, up2, hdx]) ?_
    refine q_i2l G dX2_countReduced_15 (by omega) ?_
    refine q_lcmp_gt (tgt := 122) G dX2_countReduced_16 dX2_countReduced_17 (by decide) (by omega) (by omega) (fun c1 => ?_) (fun c1 => ?_)
    · refine q_iload_n G 1 1 dX2_countReduced_122 rfl rfl ?_
      exact q_iret G dX2_countReduced_123 hret (by omega) (by omega) (⟨by have h6 := hs; rw [cnt_outb b1 (by omega)] at h6; rw [← h6, Int.add_zero], L, rfl, fa⟩)
    · refine q_lload_n G 0 2 dX2_countReduced_20 rfl rfl ?_
      refine q_lload_n G 0 2 dX2_countReduced_21 rfl rfl ?_
      refine q_lmul G dX2_countReduced_22 ?_
      refine q_aload_n G 2 0 dX2_countReduced_23 rfl rfl ?_
      refine q_gt (v := .int (qI (dd))) G dX2_countReduced_24 fl_X2_9 o1 (by decide) rfl (by simp [mI, mL, mR, sL, sI, sR, wL, wD, stF, up2, hdx]) ?_
      refine q_i2l G dX2_countReduced_27 (by omega) ?_
      refine q_ladd G dX2_countReduced_28 ?_
      refine q_ldc2 (z := 4) G dX2_countReduced_29 tw_280 (by decide +kernel) ?_
      refine q_ldiv G dX2_countReduced_32 (by first | assumption | omega) (by first | assumption | omega) (by first | assumption | omega) ?_
      refine q_topL (z2 := (b * b + dd) / 4) (Int.tdiv_eq_ediv_of_nonneg (by omega)) ?_
      refine q_lstore (lv' := [(4, .long (qL ((b * b + dd) / 4))), (2, .long (qL (b))), (1, .int (qI (n))), (0, .ref (ad 1))]) G dX2_countReduced_33 (by decide) rfl ?_
      refine q_lload_n G 1 2 dX2_countReduced_35 rfl rfl ?_
      refine q_lstore (lv' := [(6, .long (qL (b))), (4, .long (qL ((b * b + dd) / 4))), (2, .long (qL (b))), (1, .int (qI (n))), (0, .ref (ad 1))]) G dX2_countReduced_36 (by decide) rfl ?_
      refine q_lvs [0, 1, 2, 3, 4] rfl ?_
      exact l_cnt_i l D cy M ad hC dd hd hd1 b G hret ih2 _ b n L (Nat.lt_succ_self _) (ccI_in hd7 hd1.2.1 hI (by omega))
set_option maxRecDepth 100000 in
set_option maxHeartbeats 4000000 in
theorem c_X2_countReduced (l : Launch) (D : va_G) (cy : Nat → ClassId) (M : qM) (ad : Nat → Nat) (hC : CSt M ad) (dd : Int) (hd : mI M (ad 1) 0 = dd) (hd1 : 7 ≤ dd ∧ dd ≤ 50000 ∧ dd % 8 = 7) : qCt l D cy yX2_countReduced cX2_countReduced 8 (some .int) { frames := 3, cells := 0, slots := 0, locals := 86 } 0 0 [.ref (ad 1)] M (poCnt M ad dd) := by
  refine qCt_of (lv0 := [(0, .ref (ad 1))]) (by decide) rfl (Nat.le_of_ble_eq_true rfl) ?_
  intro p e s m args below meth c G hname hret
  refine q_iconst G dX2_countReduced_0 ?_
  refine q_istore_n (lv' := [(1, .int (qI (0))), (0, .ref (ad 1))]) G 1 dX2_countReduced_1 rfl (by decide) rfl ?_
  refine q_lconst (z := 1) G dX2_countReduced_2 (by decide +kernel) ?_
  refine q_lstore_n (lv' := [(2, .long (qL (1))), (1, .int (qI (0))), (0, .ref (ad 1))]) G 2 dX2_countReduced_3 rfl (by decide) rfl ?_
  refine q_lvs [0, 1, 2] rfl ?_
  exact l_cnt_o l D cy M ad hC dd hd hd1 G hret _ 1 0 (mL M) (Nat.lt_succ_self _) ⟨by decide, frA_rf _, by rw [show (131 - 1 : Int).toNat = 130 from rfl]; exact Int.zero_add _⟩
set_option maxRecDepth 100000 in
set_option maxHeartbeats 4000000 in
theorem c_X4_classes (l : Launch) (hl : l.stackTraces = false) (D : va_G) (cy : Nat → ClassId) (M : qM) (ad : Nat → Nat) (hC : CSt M ad) (σ : qS) (hY : CDy σ ad (mI M) (mL M) (mR M)) (hW : WF σ) : qCx l D cy yX4_classes cX4_classes 1 (some .int) { frames := 7, cells := 2, slots := 12, locals := 113 } 2 12 [.ref (ad 0)] M (fun v M' => e_17 σ = 0 ∧ poC M ad (σ) (fun v => v = some (.int (qI (a_17 σ)))) v M') (fun E => (E = sIS ∧ e_17 σ = 1) ∨ (E = sIA ∧ e_17 σ = 2)) := by
  refine qCx_of (lv0 := [(0, .ref (ad 0))]) (by decide) rfl (Nat.le_of_ble_eq_true rfl) ?_
  intro p e s m args below meth c G ht hret
  obtain ⟨⟨y4, y5, y6⟩, yD, yV, yF, yB, yR, -⟩ := id hY
  obtain ⟨w1, w2, w3⟩ := WF_n hW
  have o0 := CS_x hC
  have o1 := CS_fo hC
  have a11 := CS_a1 hC
  have a12 := CS_a2 hC
  have a13 := CS_a3 hC
  obtain ⟨s0, s1, s2, s3⟩ := hC.2.2.2.1
  have z4 : mI M (ad 0) 4 = 0 ∨ mI M (ad 0) 4 = 1 := by omega
  refine q_aload_n G 0 0 dX4_classes_0 rfl rfl ?_
  refine q_callVX (As := []) (rest := []) G dX4_classes_1 cw_X4_63 (c_X4_needDiscriminant l hl D cy M (ad 0) o0 z4) o0.1 o0.2 (by decide) rfl rfl rfl (Nat.le_of_ble_eq_true rfl) rfl rfl ⟨Nat.le_of_ble_eq_true rfl, Nat.le_of_ble_eq_true rfl⟩ ⟨by decide, by decide⟩ (fun E9 ce9 q9 H9 lc9 ls9 hx9 h91 h92 h93 h94 h95 h96 h97 => q_outX G ht (Or.inl (⟨hx9.1, by have h9 := hx9.2; unfold e_17; omega⟩)) h91 h93 h95 h96 h97 (by omega) (by omega)) (fun v9 M9 hq9 => ?_)
  obtain ⟨⟨rfl, e9⟩, zD⟩ := hq9
  refine q_st (st2 := []) rfl ?_
  refine q_mem e9 ?_
  have hD0 : sD σ ≠ 0 := by omega
  have hd : dOk (sD σ) := by rcases hW.1 with h9 | h9; exact absurd h9 hD0; exact h9
  obtain ⟨d1, d2, d3⟩ := yD hD0
  have hd7 := hd.1
  have hd9 := hd.2.1
  refine q_aload_n G 0 0 dX4_classes_4 rfl rfl ?_
  refine q_gt (v := .ref (ad 1)) G dX4_classes_5 fl_X4_10 o0 (by decide) rfl (congrArg va_rf s0) ?_
  refine q_gt (v := .int (qI (mI M (ad 1) 0))) G dX4_classes_8 fl_X4_207 o1 (by decide) rfl rfl ?_
  refine q_ldc (z := 50000) G dX4_classes_11 tw_570 (by decide +kernel) ?_
  refine q_icmp_le (tgt := 26) G dX4_classes_13 (by decide) (by omega) (by omega) (fun c1 => ?_) (fun c1 => ?_)
  · refine q_aload_n G 0 0 dX4_classes_26 rfl rfl ?_
    refine q_gt (v := .ref (ad 1)) G dX4_classes_27 fl_X4_10 o0 (by decide) rfl (congrArg va_rf s0) ?_
    refine q_callV (As := []) (rest := []) G dX4_classes_30 cw_X4_213 (c_X2_countReduced l D cy M ad hC (sD σ) d1 (by omega)) o1.1 o1.2 (by decide) rfl rfl rfl (Nat.le_of_ble_eq_true rfl) rfl rfl ⟨Nat.le_of_ble_eq_true rfl, Nat.le_of_ble_eq_true rfl⟩ ⟨by decide, by decide⟩ (fun v9 M9 hq9 => ?_)
    obtain ⟨rfl, L1, e9, fa⟩ := hq9
    refine q_st (st2 := [.int (qI (cntN (sD σ)))]) rfl ?_
    refine q_mem (M2 := wL M L1) e9 ?_
    refine q_retX ?_
    exact q_iret G dX4_classes_33 hret (by omega) (by omega) (⟨(by unfold e_17; omega), ⟨mI M, L1, mR M, rfl, fun b hb => ⟨rfl, frA_o fa (by intro s hs; simp at hs; omega) hb, rfl⟩, hC, CD_G hC hW hY fa (by intro s hs; simp at hs; omega), rfl⟩⟩)
  · exact q_throw (P0 := []) G hl qt_47_211 (Or.inr (⟨rfl, by unfold e_17; omega⟩)) dX4_classes_16 dX4_classes_19 dX4_classes_20 dX4_classes_22 dX4_classes_25 ht (by decide) (by decide) (by decide) (by decide) (by omega) (by omega)
