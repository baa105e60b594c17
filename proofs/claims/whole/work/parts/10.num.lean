/-! numbers: ints and longs of the machine by whole numbers -/
def qI (z : Int) : Int32 := Int32.ofInt z
def qL (z : Int) : Int64 := Int64.ofInt z
abbrev r32 (z : Int) : Prop := -2147483648 ≤ z ∧ z < 2147483648
abbrev r64 (z : Int) : Prop := -9223372036854775808 ≤ z ∧ z < 9223372036854775808
theorem qI_int {z : Int} (h : r32 z) : (qI z).toInt = z := Int32.toInt_ofInt_of_le (by have := h.1; omega) (by have := h.2; omega)
theorem qL_int {z : Int} (h : r64 z) : (qL z).toInt = z := Int64.toInt_ofInt_of_le (by have := h.1; omega) (by have := h.2; omega)
theorem qI_rng (v : Int32) : r32 v.toInt := ⟨by have := Int32.le_toInt v; omega, by have := Int32.toInt_lt v; omega⟩
theorem qL_rng (v : Int64) : r64 v.toInt := ⟨by have := Int64.le_toInt v; omega, by have := Int64.toInt_lt v; omega⟩
theorem qI_of (v : Int32) : v = qI v.toInt := (Int32.ofInt_toInt v).symm
theorem qL_of (v : Int64) : v = qL v.toInt := (Int64.ofInt_toInt v).symm
theorem qI_ex (v : Int32) : ∃ z, r32 z ∧ v = qI z := ⟨_, qI_rng v, qI_of v⟩
theorem qL_ex (v : Int64) : ∃ z, r64 z ∧ v = qL z := ⟨_, qL_rng v, qL_of v⟩
theorem qI_add (x y : Int) : qI x + qI y = qI (x + y) := (Int32.ofInt_add x y).symm
theorem qI_sub (x y : Int) : qI x - qI y = qI (x - y) := (Int32.ofInt_sub x y).symm
theorem qI_mul (x y : Int) : qI x * qI y = qI (x * y) := (Int32.ofInt_mul x y).symm
theorem qI_neg (x : Int) : - qI x = qI (-x) := (Int32.ofInt_neg x).symm
theorem qL_add (x y : Int) : qL x + qL y = qL (x + y) := (Int64.ofInt_add x y).symm
theorem qL_sub (x y : Int) : qL x - qL y = qL (x - y) := (Int64.ofInt_sub x y).symm
theorem qL_mul (x y : Int) : qL x * qL y = qL (x * y) := (Int64.ofInt_mul x y).symm
theorem qL_neg (x : Int) : - qL x = qL (-x) := (Int64.ofInt_neg x).symm
theorem qI_eq {x y : Int} (hx : r32 x) (hy : r32 y) : qI x = qI y ↔ x = y := by rw [← Int32.toInt_inj, qI_int hx, qI_int hy]
theorem qI_lt {x y : Int} (hx : r32 x) (hy : r32 y) : qI x < qI y ↔ x < y := by rw [Int32.lt_iff_toInt_lt, qI_int hx, qI_int hy]
theorem qI_le {x y : Int} (hx : r32 x) (hy : r32 y) : qI x ≤ qI y ↔ x ≤ y := by rw [Int32.le_iff_toInt_le, qI_int hx, qI_int hy]
theorem qL_eq {x y : Int} (hx : r64 x) (hy : r64 y) : qL x = qL y ↔ x = y := by rw [← Int64.toInt_inj, qL_int hx, qL_int hy]
theorem qL_lt {x y : Int} (hx : r64 x) (hy : r64 y) : qL x < qL y ↔ x < y := by rw [Int64.lt_iff_toInt_lt, qL_int hx, qL_int hy]
theorem qL_le {x y : Int} (hx : r64 x) (hy : r64 y) : qL x ≤ qL y ↔ x ≤ y := by rw [Int64.le_iff_toInt_le, qL_int hx, qL_int hy]
theorem qI_0 : qI 0 = 0 := rfl
theorem qL_0 : qL 0 = 0 := rfl
theorem r32_0 : r32 0 := ⟨by decide, by decide⟩
theorem r64_0 : r64 0 := ⟨by decide, by decide⟩
theorem qI_div {x y : Int} (hx : r32 x) (hy : r32 y) : qI x / qI y = qI (x.tdiv y) := by
  have h := Int32.toInt_div (qI x) (qI y)
  rw [qI_int hx, qI_int hy] at h
  rw [← Int32.toInt_inj, h]
  show _ = (Int32.ofInt _).toInt
  rw [Int32.toInt_ofInt]
theorem qL_div {x y : Int} (hx : r64 x) (hy : r64 y) : qL x / qL y = qL (x.tdiv y) := by
  have h := Int64.toInt_div (qL x) (qL y)
  rw [qL_int hx, qL_int hy] at h
  rw [← Int64.toInt_inj, h]
  show _ = (Int64.ofInt _).toInt
  rw [Int64.toInt_ofInt]
theorem qI_rem {x y : Int} (hx : r32 x) (hy : r32 y) : qI x - qI x / qI y * qI y = qI (x.tmod y) := by
  rw [qI_div hx hy, qI_mul, qI_sub]
  congr 1
  have := Int.tmod_def x y
  have h2 : x.tdiv y * y = y * x.tdiv y := Int.mul_comm _ _
  omega
theorem qL_rem {x y : Int} (hx : r64 x) (hy : r64 y) : qL x - qL x / qL y * qL y = qL (x.tmod y) := by
  rw [qL_div hx hy, qL_mul, qL_sub]
  congr 1
  have := Int.tmod_def x y
  have h2 : x.tdiv y * y = y * x.tdiv y := Int.mul_comm _ _
  omega
theorem qI_wide {x : Int} (hx : r32 x) : (qI x).toInt64 = qL x := by
  rw [← Int64.toInt_inj, Int32.toInt_toInt64, qI_int hx, qL_int ⟨by have := hx.1; omega, by have := hx.2; omega⟩]
theorem qL_cut (x : Int) : (qL x).toInt32 = qI x := Int64.toInt32_ofInt
theorem qI_nat {x : Int} (hx : 0 ≤ x) (h : x < 2147483648) : (qI x).toNatClampNeg = x.toNat := by
  show (qI x).toInt.toNat = _
  rw [qI_int ⟨by omega, h⟩]
theorem qI_in {x : Int} {n : Nat} (hx : 0 ≤ x) (h : x < n) (hn : n < 2147483648) : vp_in (qI x) n := by
  rw [vp_in_iff, qI_int ⟨by omega, by omega⟩]
  exact ⟨hx, h⟩
/-- bit by bit, by numbers -/
def qxor (x y : Int) : Int := (qI x ^^^ qI y).toInt
def qand (x y : Int) : Int := (qI x &&& qI y).toInt
def qushr (x y : Int) : Int := ((qI x).toUInt32 >>> ((qI y).toUInt32 &&& Int32.toUInt32 31)).toInt32.toInt
def qshr (x y : Int) : Int := (qI x >>> (qI y &&& 31)).toInt
theorem qxor_e (x y : Int) : qI x ^^^ qI y = qI (qxor x y) := qI_of _
theorem qand_e (x y : Int) : qI x &&& qI y = qI (qand x y) := qI_of _
theorem qushr_e (x y : Int) : ((qI x).toUInt32 >>> ((qI y).toUInt32 &&& Int32.toUInt32 31)).toInt32 = qI (qushr x y) := qI_of _
theorem qshr_e (x y : Int) : qI x >>> (qI y &&& 31) = qI (qshr x y) := qI_of _
theorem qxor_r (x y : Int) : r32 (qxor x y) := qI_rng _
theorem qand_r (x y : Int) : r32 (qand x y) := qI_rng _
theorem qushr_r (x y : Int) : r32 (qushr x y) := qI_rng _
theorem qshr_r (x y : Int) : r32 (qshr x y) := qI_rng _
/-- the int that a number wraps to -/
def qw32 (x : Int) : Int := (qI x).toInt
theorem qw32_r (x : Int) : r32 (qw32 x) := qI_rng _
theorem qw32_e (x : Int) : qI (qw32 x) = qI x := (qI_of _).symm
theorem qw32_id {x : Int} (h : r32 x) : qw32 x = x := qI_int h
theorem qxor_w (x y : Int) : qxor (qw32 x) (qw32 y) = qxor x y := by unfold qxor; rw [qw32_e, qw32_e]
