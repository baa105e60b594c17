theorem cin_0 : ∀ w ∈ u_ws RX0 TX0 3, w ∈ qB := by decide +kernel
theorem cin_1 : ∀ w ∈ u_ws RX1 TX1 3, w ∈ qB := by decide +kernel
theorem cin_2 : ∀ w ∈ u_ws RX2 TX2 10, w ∈ qB := by decide +kernel
theorem cin_3 : ∀ w ∈ u_ws RX3 TX3 9, w ∈ qB := by decide +kernel
theorem cin_4 : ∀ w ∈ u_ws RX4 TX4 7, w ∈ qB := by decide +kernel
theorem cin_5 : ∀ w ∈ u_ws RX5 TX5 12, w ∈ qB := by decide +kernel
theorem nf_0_0 {α : Prop} : ∀ (C : String) (T : u_T) (N : Nat), vwCl[0]? = some (C, T, N) → (T 0).2.2.2 = true → α := fun C T N h h2 => by cases h; exact absurd h2 (by decide)
theorem nf_0_1 {α : Prop} : ∀ (C : String) (T : u_T) (N : Nat), vwCl[0]? = some (C, T, N) → (T 1).2.2.2 = true → α := fun C T N h h2 => by cases h; exact absurd h2 (by decide)
theorem nf_0_2 {α : Prop} : ∀ (C : String) (T : u_T) (N : Nat), vwCl[0]? = some (C, T, N) → (T 2).2.2.2 = true → α := fun C T N h h2 => by cases h; exact absurd h2 (by decide)
theorem nf_1_0 {α : Prop} : ∀ (C : String) (T : u_T) (N : Nat), vwCl[1]? = some (C, T, N) → (T 0).2.2.2 = true → α := fun C T N h h2 => by cases h; exact absurd h2 (by decide)
theorem nf_1_1 {α : Prop} : ∀ (C : String) (T : u_T) (N : Nat), vwCl[1]? = some (C, T, N) → (T 1).2.2.2 = true → α := fun C T N h h2 => by cases h; exact absurd h2 (by decide)
theorem nf_1_2 {α : Prop} : ∀ (C : String) (T : u_T) (N : Nat), vwCl[1]? = some (C, T, N) → (T 2).2.2.2 = true → α := fun C T N h h2 => by cases h; exact absurd h2 (by decide)
theorem nf_2_0 {α : Prop} : ∀ (C : String) (T : u_T) (N : Nat), vwCl[2]? = some (C, T, N) → (T 0).2.2.2 = true → α := fun C T N h h2 => by cases h; exact absurd h2 (by decide)
theorem nf_3_0 {α : Prop} : ∀ (C : String) (T : u_T) (N : Nat), vwCl[3]? = some (C, T, N) → (T 0).2.2.2 = true → α := fun C T N h h2 => by cases h; exact absurd h2 (by decide)
theorem nf_3_1 {α : Prop} : ∀ (C : String) (T : u_T) (N : Nat), vwCl[3]? = some (C, T, N) → (T 1).2.2.2 = true → α := fun C T N h h2 => by cases h; exact absurd h2 (by decide)
theorem nf_3_2 {α : Prop} : ∀ (C : String) (T : u_T) (N : Nat), vwCl[3]? = some (C, T, N) → (T 2).2.2.2 = true → α := fun C T N h h2 => by cases h; exact absurd h2 (by decide)
theorem nf_3_3 {α : Prop} : ∀ (C : String) (T : u_T) (N : Nat), vwCl[3]? = some (C, T, N) → (T 3).2.2.2 = true → α := fun C T N h h2 => by cases h; exact absurd h2 (by decide)
theorem nf_3_4 {α : Prop} : ∀ (C : String) (T : u_T) (N : Nat), vwCl[3]? = some (C, T, N) → (T 4).2.2.2 = true → α := fun C T N h h2 => by cases h; exact absurd h2 (by decide)
theorem nf_3_5 {α : Prop} : ∀ (C : String) (T : u_T) (N : Nat), vwCl[3]? = some (C, T, N) → (T 5).2.2.2 = true → α := fun C T N h h2 => by cases h; exact absurd h2 (by decide)
theorem nf_4_4 {α : Prop} : ∀ (C : String) (T : u_T) (N : Nat), vwCl[4]? = some (C, T, N) → (T 4).2.2.2 = true → α := fun C T N h h2 => by cases h; exact absurd h2 (by decide)
theorem nf_4_5 {α : Prop} : ∀ (C : String) (T : u_T) (N : Nat), vwCl[4]? = some (C, T, N) → (T 5).2.2.2 = true → α := fun C T N h h2 => by cases h; exact absurd h2 (by decide)
theorem nf_4_6 {α : Prop} : ∀ (C : String) (T : u_T) (N : Nat), vwCl[4]? = some (C, T, N) → (T 6).2.2.2 = true → α := fun C T N h h2 => by cases h; exact absurd h2 (by decide)
theorem nf_5_0 {α : Prop} : ∀ (C : String) (T : u_T) (N : Nat), vwCl[5]? = some (C, T, N) → (T 0).2.2.2 = true → α := fun C T N h h2 => by cases h; exact absurd h2 (by decide)
theorem nf_5_1 {α : Prop} : ∀ (C : String) (T : u_T) (N : Nat), vwCl[5]? = some (C, T, N) → (T 1).2.2.2 = true → α := fun C T N h h2 => by cases h; exact absurd h2 (by decide)
theorem nf_5_6 {α : Prop} : ∀ (C : String) (T : u_T) (N : Nat), vwCl[5]? = some (C, T, N) → (T 6).2.2.2 = true → α := fun C T N h h2 => by cases h; exact absurd h2 (by decide)
theorem nf_5_7 {α : Prop} : ∀ (C : String) (T : u_T) (N : Nat), vwCl[5]? = some (C, T, N) → (T 7).2.2.2 = true → α := fun C T N h h2 => by cases h; exact absurd h2 (by decide)
theorem nf_5_9 {α : Prop} : ∀ (C : String) (T : u_T) (N : Nat), vwCl[5]? = some (C, T, N) → (T 9).2.2.2 = true → α := fun C T N h h2 => by cases h; exact absurd h2 (by decide)
theorem nf_5_10 {α : Prop} : ∀ (C : String) (T : u_T) (N : Nat), vwCl[5]? = some (C, T, N) → (T 10).2.2.2 = true → α := fun C T N h h2 => by cases h; exact absurd h2 (by decide)
theorem nf_5_11 {α : Prop} : ∀ (C : String) (T : u_T) (N : Nat), vwCl[5]? = some (C, T, N) → (T 11).2.2.2 = true → α := fun C T N h h2 => by cases h; exact absurd h2 (by decide)
theorem cw_L_74 : qCI RL 74 yX4_init cX4_init 2 0 := ⟨Or.inl tw_17, ⟨tw_18, tw_1, tw_19⟩, rfl, ⟨by decide +kernel, by decide +kernel, by decide +kernel⟩⟩
theorem cw_X4_9 : qCI RX4 9 yX2_init cX2_init 1 0 := ⟨Or.inl tw_25, ⟨tw_26, tw_2, tw_27⟩, rfl, ⟨by decide +kernel, by decide +kernel, by decide +kernel⟩⟩
theorem cw_X2_17 : qCI RX2 17 yX1_init cX1_init 1 0 := ⟨Or.inl tw_31, ⟨tw_32, tw_3, tw_33⟩, rfl, ⟨by decide +kernel, by decide +kernel, by decide +kernel⟩⟩
theorem fl_X1_7 : qFL RX1 7 1 0 := ⟨RX1, TX1, 3, rfl, by decide, cin_1, Or.inl tw_35⟩
theorem pl_X1_7 (x : Int64) : qPL RX1 7 1 0 (.long x) := ⟨RX1, TX1, 3, tyX1, tyX1 0, rfl, by decide, cin_1, tyX1_ok, nmX1, tyX1_ok 0 (by decide), rfl, rfl, Or.inl ⟨rfl, Or.inl tw_35⟩⟩
theorem fl_X2_60 : qFL RX2 60 1 0 := ⟨RX1, TX1, 3, rfl, by decide, cin_1, Or.inr ⟨"SquaringClock", qX_i 36 (by decide +kernel) (by decide +kernel)⟩⟩
theorem pl_X2_60 (x : Int64) : qPL RX2 60 1 0 (.long x) := ⟨RX1, TX1, 3, tyX1, tyX1 0, rfl, by decide, cin_1, tyX1_ok, nmX1, tyX1_ok 0 (by decide), rfl, rfl, Or.inl ⟨rfl, Or.inr ⟨"SquaringClock", qX_i 36 (by decide +kernel) (by decide +kernel)⟩⟩⟩
theorem fl_X4_243 : qFL RX4 243 1 0 := ⟨RX1, TX1, 3, rfl, by decide, cin_1, Or.inr ⟨"SquaringClock", qX_i 37 (by decide +kernel) (by decide +kernel)⟩⟩
theorem pl_X4_243 (x : Int64) : qPL RX4 243 1 0 (.long x) := ⟨RX1, TX1, 3, tyX1, tyX1 0, rfl, by decide, cin_1, tyX1_ok, nmX1, tyX1_ok 0 (by decide), rfl, rfl, Or.inl ⟨rfl, Or.inr ⟨"SquaringClock", qX_i 37 (by decide +kernel) (by decide +kernel)⟩⟩⟩
theorem fl_X1_13 : qFL RX1 13 1 1 := ⟨RX1, TX1, 3, rfl, by decide, cin_1, Or.inl tw_38⟩
theorem pl_X1_13 (x : Int64) : qPL RX1 13 1 1 (.long x) := ⟨RX1, TX1, 3, tyX1, tyX1 1, rfl, by decide, cin_1, tyX1_ok, nmX1, tyX1_ok 1 (by decide), rfl, rfl, Or.inl ⟨rfl, Or.inl tw_38⟩⟩
theorem fl_X2_64 : qFL RX2 64 1 1 := ⟨RX1, TX1, 3, rfl, by decide, cin_1, Or.inr ⟨"SquaringClock", qX_i 39 (by decide +kernel) (by decide +kernel)⟩⟩
theorem pl_X2_64 (x : Int64) : qPL RX2 64 1 1 (.long x) := ⟨RX1, TX1, 3, tyX1, tyX1 1, rfl, by decide, cin_1, tyX1_ok, nmX1, tyX1_ok 1 (by decide), rfl, rfl, Or.inl ⟨rfl, Or.inr ⟨"SquaringClock", qX_i 39 (by decide +kernel) (by decide +kernel)⟩⟩⟩
theorem fl_X4_247 : qFL RX4 247 1 1 := ⟨RX1, TX1, 3, rfl, by decide, cin_1, Or.inr ⟨"SquaringClock", qX_i 40 (by decide +kernel) (by decide +kernel)⟩⟩
theorem pl_X4_247 (x : Int64) : qPL RX4 247 1 1 (.long x) := ⟨RX1, TX1, 3, tyX1, tyX1 1, rfl, by decide, cin_1, tyX1_ok, nmX1, tyX1_ok 1 (by decide), rfl, rfl, Or.inl ⟨rfl, Or.inr ⟨"SquaringClock", qX_i 40 (by decide +kernel) (by decide +kernel)⟩⟩⟩
theorem fl_X1_16 : qFL RX1 16 1 2 := ⟨RX1, TX1, 3, rfl, by decide, cin_1, Or.inl tw_41⟩
theorem pl_X1_16 (x : Int64) : qPL RX1 16 1 2 (.long x) := ⟨RX1, TX1, 3, tyX1, tyX1 2, rfl, by decide, cin_1, tyX1_ok, nmX1, tyX1_ok 2 (by decide), rfl, rfl, Or.inl ⟨rfl, Or.inl tw_41⟩⟩
theorem fl_X2_73 : qFL RX2 73 1 2 := ⟨RX1, TX1, 3, rfl, by decide, cin_1, Or.inr ⟨"SquaringClock", qX_i 42 (by decide +kernel) (by decide +kernel)⟩⟩
theorem pl_X2_73 (x : Int64) : qPL RX2 73 1 2 (.long x) := ⟨RX1, TX1, 3, tyX1, tyX1 2, rfl, by decide, cin_1, tyX1_ok, nmX1, tyX1_ok 2 (by decide), rfl, rfl, Or.inl ⟨rfl, Or.inr ⟨"SquaringClock", qX_i 42 (by decide +kernel) (by decide +kernel)⟩⟩⟩
theorem cw_X2_27 : qCI RX2 27 yX0_init cX0_init 1 0 := ⟨Or.inr ⟨"SquaringClock", qX_i 52 (by decide +kernel) (by decide +kernel)⟩, ⟨tw_53, tw_4, tw_54⟩, rfl, ⟨by decide +kernel, by decide +kernel, by decide +kernel⟩⟩
theorem fl_X0_25 : qFL RX0 25 0 0 := ⟨RX0, TX0, 3, rfl, by decide, cin_0, Or.inl tw_56⟩
theorem pl_X0_25 (x : Int64) : qPL RX0 25 0 0 (.long x) := ⟨RX0, TX0, 3, tyX0, tyX0 0, rfl, by decide, cin_0, tyX0_ok, nmX0, tyX0_ok 0 (by decide), rfl, rfl, Or.inl ⟨rfl, Or.inl tw_56⟩⟩
theorem fl_X2_87 : qFL RX2 87 0 0 := ⟨RX0, TX0, 3, rfl, by decide, cin_0, Or.inr ⟨"SquaringClock", qX_i 57 (by decide +kernel) (by decide +kernel)⟩⟩
theorem pl_X2_87 (x : Int64) : qPL RX2 87 0 0 (.long x) := ⟨RX0, TX0, 3, tyX0, tyX0 0, rfl, by decide, cin_0, tyX0_ok, nmX0, tyX0_ok 0 (by decide), rfl, rfl, Or.inl ⟨rfl, Or.inr ⟨"SquaringClock", qX_i 57 (by decide +kernel) (by decide +kernel)⟩⟩⟩
theorem fl_X0_9 : qFL RX0 9 0 1 := ⟨RX0, TX0, 3, rfl, by decide, cin_0, Or.inl tw_58⟩
theorem pl_X0_9 (x : Int64) : qPL RX0 9 0 1 (.long x) := ⟨RX0, TX0, 3, tyX0, tyX0 1, rfl, by decide, cin_0, tyX0_ok, nmX0, tyX0_ok 1 (by decide), rfl, rfl, Or.inl ⟨rfl, Or.inl tw_58⟩⟩
theorem fl_X2_107 : qFL RX2 107 0 1 := ⟨RX0, TX0, 3, rfl, by decide, cin_0, Or.inr ⟨"SquaringClock", qX_i 59 (by decide +kernel) (by decide +kernel)⟩⟩
theorem pl_X2_107 (x : Int64) : qPL RX2 107 0 1 (.long x) := ⟨RX0, TX0, 3, tyX0, tyX0 1, rfl, by decide, cin_0, tyX0_ok, nmX0, tyX0_ok 1 (by decide), rfl, rfl, Or.inl ⟨rfl, Or.inr ⟨"SquaringClock", qX_i 59 (by decide +kernel) (by decide +kernel)⟩⟩⟩
theorem fl_X0_15 : qFL RX0 15 0 2 := ⟨RX0, TX0, 3, rfl, by decide, cin_0, Or.inl tw_60⟩
theorem pl_X0_15 (x : Int64) : qPL RX0 15 0 2 (.long x) := ⟨RX0, TX0, 3, tyX0, tyX0 2, rfl, by decide, cin_0, tyX0_ok, nmX0, tyX0_ok 2 (by decide), rfl, rfl, Or.inl ⟨rfl, Or.inl tw_60⟩⟩
theorem fl_X2_104 : qFL RX2 104 0 2 := ⟨RX0, TX0, 3, rfl, by decide, cin_0, Or.inr ⟨"SquaringClock", qX_i 61 (by decide +kernel) (by decide +kernel)⟩⟩
theorem pl_X2_104 (x : Int64) : qPL RX2 104 0 2 (.long x) := ⟨RX0, TX0, 3, tyX0, tyX0 2, rfl, by decide, cin_0, tyX0_ok, nmX0, tyX0_ok 2 (by decide), rfl, rfl, Or.inl ⟨rfl, Or.inr ⟨"SquaringClock", qX_i 61 (by decide +kernel) (by decide +kernel)⟩⟩⟩
theorem fl_X2_9 : qFL RX2 9 2 0 := ⟨RX2, TX2, 10, rfl, by decide, cin_2, Or.inl tw_69⟩
theorem pl_X2_9 (x : Int32) : qPL RX2 9 2 0 (.int x) := ⟨RX2, TX2, 10, tyX2, tyX2 0, rfl, by decide, cin_2, tyX2_ok, nmX2, tyX2_ok 0 (by decide), rfl, rfl, Or.inl ⟨rfl, Or.inl tw_69⟩⟩
theorem fl_X4_207 : qFL RX4 207 2 0 := ⟨RX2, TX2, 10, rfl, by decide, cin_2, Or.inr ⟨"SquaringClock", qX_i 70 (by decide +kernel) (by decide +kernel)⟩⟩
theorem pl_X4_207 (x : Int32) : qPL RX4 207 2 0 (.int x) := ⟨RX2, TX2, 10, tyX2, tyX2 0, rfl, by decide, cin_2, tyX2_ok, nmX2, tyX2_ok 0 (by decide), rfl, rfl, Or.inl ⟨rfl, Or.inr ⟨"SquaringClock", qX_i 70 (by decide +kernel) (by decide +kernel)⟩⟩⟩
theorem fl_X2_18 : qFL RX2 18 2 1 := ⟨RX2, TX2, 10, rfl, by decide, cin_2, Or.inl tw_71⟩
theorem pl_X2_18 (x : Nat) : qPL RX2 18 2 1 (.ref x) := ⟨RX2, TX2, 10, tyX2, tyX2 1, rfl, by decide, cin_2, tyX2_ok, nmX2, tyX2_ok 1 (by decide), rfl, rfl, Or.inr ⟨rfl, rfl, tw_71⟩⟩
theorem pl_X2_18n  : qPL RX2 18 2 1 (.null) := ⟨RX2, TX2, 10, tyX2, tyX2 1, rfl, by decide, cin_2, tyX2_ok, nmX2, tyX2_ok 1 (by decide), rfl, rfl, Or.inr ⟨rfl, rfl, tw_71⟩⟩
theorem fl_X4_114 : qFL RX4 114 2 1 := ⟨RX2, TX2, 10, rfl, by decide, cin_2, Or.inr ⟨"SquaringClock", qX_i 72 (by decide +kernel) (by decide +kernel)⟩⟩
theorem fl_X2_22 : qFL RX2 22 2 2 := ⟨RX2, TX2, 10, rfl, by decide, cin_2, Or.inl tw_73⟩
theorem pl_X2_22 (x : Nat) : qPL RX2 22 2 2 (.ref x) := ⟨RX2, TX2, 10, tyX2, tyX2 2, rfl, by decide, cin_2, tyX2_ok, nmX2, tyX2_ok 2 (by decide), rfl, rfl, Or.inr ⟨rfl, rfl, tw_73⟩⟩
theorem pl_X2_22n  : qPL RX2 22 2 2 (.null) := ⟨RX2, TX2, 10, tyX2, tyX2 2, rfl, by decide, cin_2, tyX2_ok, nmX2, tyX2_ok 2 (by decide), rfl, rfl, Or.inr ⟨rfl, rfl, tw_73⟩⟩
theorem fl_X4_93 : qFL RX4 93 2 2 := ⟨RX2, TX2, 10, rfl, by decide, cin_2, Or.inr ⟨"SquaringClock", qX_i 74 (by decide +kernel) (by decide +kernel)⟩⟩
theorem fl_X2_28 : qFL RX2 28 2 3 := ⟨RX2, TX2, 10, rfl, by decide, cin_2, Or.inl tw_75⟩
theorem pl_X2_28 (x : Nat) : qPL RX2 28 2 3 (.ref x) := ⟨RX2, TX2, 10, tyX2, tyX2 3, rfl, by decide, cin_2, tyX2_ok, nmX2, tyX2_ok 3 (by decide), rfl, rfl, Or.inr ⟨rfl, rfl, tw_75⟩⟩
theorem pl_X2_28n  : qPL RX2 28 2 3 (.null) := ⟨RX2, TX2, 10, tyX2, tyX2 3, rfl, by decide, cin_2, tyX2_ok, nmX2, tyX2_ok 3 (by decide), rfl, rfl, Or.inr ⟨rfl, rfl, tw_75⟩⟩
theorem fl_X2_32 : qFL RX2 32 2 4 := ⟨RX2, TX2, 10, rfl, by decide, cin_2, Or.inl tw_76⟩
theorem pl_X2_32 (x : Nat) : qPL RX2 32 2 4 (.ref x) := ⟨RX2, TX2, 10, tyX2, tyX2 4, rfl, by decide, cin_2, tyX2_ok, nmX2, tyX2_ok 4 (by decide), rfl, rfl, Or.inr ⟨rfl, rfl, tw_76⟩⟩
theorem pl_X2_32n  : qPL RX2 32 2 4 (.null) := ⟨RX2, TX2, 10, tyX2, tyX2 4, rfl, by decide, cin_2, tyX2_ok, nmX2, tyX2_ok 4 (by decide), rfl, rfl, Or.inr ⟨rfl, rfl, tw_76⟩⟩
theorem fl_X2_35 : qFL RX2 35 2 5 := ⟨RX2, TX2, 10, rfl, by decide, cin_2, Or.inl tw_77⟩
theorem pl_X2_35 (x : Nat) : qPL RX2 35 2 5 (.ref x) := ⟨RX2, TX2, 10, tyX2, tyX2 5, rfl, by decide, cin_2, tyX2_ok, nmX2, tyX2_ok 5 (by decide), rfl, rfl, Or.inr ⟨rfl, rfl, tw_77⟩⟩
theorem pl_X2_35n  : qPL RX2 35 2 5 (.null) := ⟨RX2, TX2, 10, tyX2, tyX2 5, rfl, by decide, cin_2, tyX2_ok, nmX2, tyX2_ok 5 (by decide), rfl, rfl, Or.inr ⟨rfl, rfl, tw_77⟩⟩
theorem fl_X2_38 : qFL RX2 38 2 6 := ⟨RX2, TX2, 10, rfl, by decide, cin_2, Or.inl tw_78⟩
theorem pl_X2_38 (x : Nat) : qPL RX2 38 2 6 (.ref x) := ⟨RX2, TX2, 10, tyX2, tyX2 6, rfl, by decide, cin_2, tyX2_ok, nmX2, tyX2_ok 6 (by decide), rfl, rfl, Or.inr ⟨rfl, rfl, tw_78⟩⟩
theorem pl_X2_38n  : qPL RX2 38 2 6 (.null) := ⟨RX2, TX2, 10, tyX2, tyX2 6, rfl, by decide, cin_2, tyX2_ok, nmX2, tyX2_ok 6 (by decide), rfl, rfl, Or.inr ⟨rfl, rfl, tw_78⟩⟩
theorem fl_X2_41 : qFL RX2 41 2 7 := ⟨RX2, TX2, 10, rfl, by decide, cin_2, Or.inl tw_79⟩
theorem pl_X2_41 (x : Nat) : qPL RX2 41 2 7 (.ref x) := ⟨RX2, TX2, 10, tyX2, tyX2 7, rfl, by decide, cin_2, tyX2_ok, nmX2, tyX2_ok 7 (by decide), rfl, rfl, Or.inr ⟨rfl, rfl, tw_79⟩⟩
theorem pl_X2_41n  : qPL RX2 41 2 7 (.null) := ⟨RX2, TX2, 10, tyX2, tyX2 7, rfl, by decide, cin_2, tyX2_ok, nmX2, tyX2_ok 7 (by decide), rfl, rfl, Or.inr ⟨rfl, rfl, tw_79⟩⟩
theorem fl_X2_44 : qFL RX2 44 2 8 := ⟨RX2, TX2, 10, rfl, by decide, cin_2, Or.inl tw_80⟩
theorem pl_X2_44 (x : Nat) : qPL RX2 44 2 8 (.ref x) := ⟨RX2, TX2, 10, tyX2, tyX2 8, rfl, by decide, cin_2, tyX2_ok, nmX2, tyX2_ok 8 (by decide), rfl, rfl, Or.inr ⟨rfl, rfl, tw_80⟩⟩
theorem pl_X2_44n  : qPL RX2 44 2 8 (.null) := ⟨RX2, TX2, 10, tyX2, tyX2 8, rfl, by decide, cin_2, tyX2_ok, nmX2, tyX2_ok 8 (by decide), rfl, rfl, Or.inr ⟨rfl, rfl, tw_80⟩⟩
theorem fl_X2_47 : qFL RX2 47 2 9 := ⟨RX2, TX2, 10, rfl, by decide, cin_2, Or.inl tw_81⟩
theorem pl_X2_47 (x : Nat) : qPL RX2 47 2 9 (.ref x) := ⟨RX2, TX2, 10, tyX2, tyX2 9, rfl, by decide, cin_2, tyX2_ok, nmX2, tyX2_ok 9 (by decide), rfl, rfl, Or.inr ⟨rfl, rfl, tw_81⟩⟩
theorem pl_X2_47n  : qPL RX2 47 2 9 (.null) := ⟨RX2, TX2, 10, tyX2, tyX2 9, rfl, by decide, cin_2, tyX2_ok, nmX2, tyX2_ok 9 (by decide), rfl, rfl, Or.inr ⟨rfl, rfl, tw_81⟩⟩
theorem cw_X4_22 : qCI RX4 22 yX3_init cX3_init 1 0 := ⟨Or.inl tw_106, ⟨tw_107, tw_5, tw_108⟩, rfl, ⟨by decide +kernel, by decide +kernel, by decide +kernel⟩⟩
theorem cw_X3_9 : qCI RX3 9 yX1_init cX1_init 1 0 := ⟨Or.inl tw_111, ⟨tw_32, tw_3, tw_33⟩, rfl, ⟨by decide +kernel, by decide +kernel, by decide +kernel⟩⟩
theorem fl_X4_71 : qFL RX4 71 3 0 := ⟨RX3, TX3, 9, rfl, by decide, cin_3, Or.inr ⟨"SquaringClock", qX_i 112 (by decide +kernel) (by decide +kernel)⟩⟩
theorem pl_X4_71 (x : Int32) : qPL RX4 71 3 0 (.int x) := ⟨RX3, TX3, 9, tyX3, tyX3 0, rfl, by decide, cin_3, tyX3_ok, nmX3, tyX3_ok 0 (by decide), rfl, rfl, Or.inl ⟨rfl, Or.inr ⟨"SquaringClock", qX_i 112 (by decide +kernel) (by decide +kernel)⟩⟩⟩
theorem fl_X4_74 : qFL RX4 74 3 1 := ⟨RX3, TX3, 9, rfl, by decide, cin_3, Or.inr ⟨"SquaringClock", qX_i 113 (by decide +kernel) (by decide +kernel)⟩⟩
theorem pl_X4_74 (x : Int32) : qPL RX4 74 3 1 (.int x) := ⟨RX3, TX3, 9, tyX3, tyX3 1, rfl, by decide, cin_3, tyX3_ok, nmX3, tyX3_ok 1 (by decide), rfl, rfl, Or.inl ⟨rfl, Or.inr ⟨"SquaringClock", qX_i 113 (by decide +kernel) (by decide +kernel)⟩⟩⟩
theorem fl_X4_77 : qFL RX4 77 3 2 := ⟨RX3, TX3, 9, rfl, by decide, cin_3, Or.inr ⟨"SquaringClock", qX_i 114 (by decide +kernel) (by decide +kernel)⟩⟩
theorem pl_X4_77 (x : Int32) : qPL RX4 77 3 2 (.int x) := ⟨RX3, TX3, 9, tyX3, tyX3 2, rfl, by decide, cin_3, tyX3_ok, nmX3, tyX3_ok 2 (by decide), rfl, rfl, Or.inl ⟨rfl, Or.inr ⟨"SquaringClock", qX_i 114 (by decide +kernel) (by decide +kernel)⟩⟩⟩
theorem fl_X4_90 : qFL RX4 90 3 3 := ⟨RX3, TX3, 9, rfl, by decide, cin_3, Or.inr ⟨"SquaringClock", qX_i 115 (by decide +kernel) (by decide +kernel)⟩⟩
theorem pl_X4_90 (x : Int32) : qPL RX4 90 3 3 (.int x) := ⟨RX3, TX3, 9, tyX3, tyX3 3, rfl, by decide, cin_3, tyX3_ok, nmX3, tyX3_ok 3 (by decide), rfl, rfl, Or.inl ⟨rfl, Or.inr ⟨"SquaringClock", qX_i 115 (by decide +kernel) (by decide +kernel)⟩⟩⟩
theorem fl_X4_80 : qFL RX4 80 3 4 := ⟨RX3, TX3, 9, rfl, by decide, cin_3, Or.inr ⟨"SquaringClock", qX_i 116 (by decide +kernel) (by decide +kernel)⟩⟩
theorem pl_X4_80 (x : Int32) : qPL RX4 80 3 4 (.int x) := ⟨RX3, TX3, 9, tyX3, tyX3 4, rfl, by decide, cin_3, tyX3_ok, nmX3, tyX3_ok 4 (by decide), rfl, rfl, Or.inl ⟨rfl, Or.inr ⟨"SquaringClock", qX_i 116 (by decide +kernel) (by decide +kernel)⟩⟩⟩
theorem fl_X4_83 : qFL RX4 83 3 5 := ⟨RX3, TX3, 9, rfl, by decide, cin_3, Or.inr ⟨"SquaringClock", qX_i 117 (by decide +kernel) (by decide +kernel)⟩⟩
theorem pl_X4_83 (x : Int32) : qPL RX4 83 3 5 (.int x) := ⟨RX3, TX3, 9, tyX3, tyX3 5, rfl, by decide, cin_3, tyX3_ok, nmX3, tyX3_ok 5 (by decide), rfl, rfl, Or.inl ⟨rfl, Or.inr ⟨"SquaringClock", qX_i 117 (by decide +kernel) (by decide +kernel)⟩⟩⟩
theorem fl_X3_10 : qFL RX3 10 3 6 := ⟨RX3, TX3, 9, rfl, by decide, cin_3, Or.inl tw_118⟩
theorem pl_X3_10 (x : Nat) : qPL RX3 10 3 6 (.ref x) := ⟨RX3, TX3, 9, tyX3, tyX3 6, rfl, by decide, cin_3, tyX3_ok, nmX3, tyX3_ok 6 (by decide), rfl, rfl, Or.inr ⟨rfl, rfl, tw_118⟩⟩
theorem pl_X3_10n  : qPL RX3 10 3 6 (.null) := ⟨RX3, TX3, 9, tyX3, tyX3 6, rfl, by decide, cin_3, tyX3_ok, nmX3, tyX3_ok 6 (by decide), rfl, rfl, Or.inr ⟨rfl, rfl, tw_118⟩⟩
theorem fl_X4_97 : qFL RX4 97 3 6 := ⟨RX3, TX3, 9, rfl, by decide, cin_3, Or.inr ⟨"SquaringClock", qX_i 119 (by decide +kernel) (by decide +kernel)⟩⟩
theorem fl_X3_16 : qFL RX3 16 3 7 := ⟨RX3, TX3, 9, rfl, by decide, cin_3, Or.inl tw_120⟩
theorem pl_X3_16 (x : Nat) : qPL RX3 16 3 7 (.ref x) := ⟨RX3, TX3, 9, tyX3, tyX3 7, rfl, by decide, cin_3, tyX3_ok, nmX3, tyX3_ok 7 (by decide), rfl, rfl, Or.inr ⟨rfl, rfl, tw_120⟩⟩
theorem pl_X3_16n  : qPL RX3 16 3 7 (.null) := ⟨RX3, TX3, 9, tyX3, tyX3 7, rfl, by decide, cin_3, tyX3_ok, nmX3, tyX3_ok 7 (by decide), rfl, rfl, Or.inr ⟨rfl, rfl, tw_120⟩⟩
theorem fl_X4_104 : qFL RX4 104 3 7 := ⟨RX3, TX3, 9, rfl, by decide, cin_3, Or.inr ⟨"SquaringClock", qX_i 121 (by decide +kernel) (by decide +kernel)⟩⟩
theorem fl_X3_19 : qFL RX3 19 3 8 := ⟨RX3, TX3, 9, rfl, by decide, cin_3, Or.inl tw_122⟩
theorem pl_X3_19 (x : Nat) : qPL RX3 19 3 8 (.ref x) := ⟨RX3, TX3, 9, tyX3, tyX3 8, rfl, by decide, cin_3, tyX3_ok, nmX3, tyX3_ok 8 (by decide), rfl, rfl, Or.inr ⟨rfl, rfl, tw_122⟩⟩
theorem pl_X3_19n  : qPL RX3 19 3 8 (.null) := ⟨RX3, TX3, 9, tyX3, tyX3 8, rfl, by decide, cin_3, tyX3_ok, nmX3, tyX3_ok 8 (by decide), rfl, rfl, Or.inr ⟨rfl, rfl, tw_122⟩⟩
theorem fl_X4_111 : qFL RX4 111 3 8 := ⟨RX3, TX3, 9, rfl, by decide, cin_3, Or.inr ⟨"SquaringClock", qX_i 123 (by decide +kernel) (by decide +kernel)⟩⟩
theorem cw_X4_29 : qCI RX4 29 yX1_init cX1_init 1 0 := ⟨Or.inl tw_145, ⟨tw_32, tw_3, tw_33⟩, rfl, ⟨by decide +kernel, by decide +kernel, by decide +kernel⟩⟩
theorem fl_X4_10 : qFL RX4 10 4 0 := ⟨RX4, TX4, 7, rfl, by decide, cin_4, Or.inl tw_146⟩
theorem pl_X4_10 (x : Nat) : qPL RX4 10 4 0 (.ref x) := ⟨RX4, TX4, 7, tyX4, tyX4 0, rfl, by decide, cin_4, tyX4_ok, nmX4, tyX4_ok 0 (by decide), rfl, rfl, Or.inr ⟨rfl, rfl, tw_146⟩⟩
theorem pl_X4_10n  : qPL RX4 10 4 0 (.null) := ⟨RX4, TX4, 7, tyX4, tyX4 0, rfl, by decide, cin_4, tyX4_ok, nmX4, tyX4_ok 0 (by decide), rfl, rfl, Or.inr ⟨rfl, rfl, tw_146⟩⟩
theorem fl_X4_18 : qFL RX4 18 4 1 := ⟨RX4, TX4, 7, rfl, by decide, cin_4, Or.inl tw_147⟩
theorem pl_X4_18 (x : Nat) : qPL RX4 18 4 1 (.ref x) := ⟨RX4, TX4, 7, tyX4, tyX4 1, rfl, by decide, cin_4, tyX4_ok, nmX4, tyX4_ok 1 (by decide), rfl, rfl, Or.inr ⟨rfl, rfl, tw_147⟩⟩
theorem pl_X4_18n  : qPL RX4 18 4 1 (.null) := ⟨RX4, TX4, 7, tyX4, tyX4 1, rfl, by decide, cin_4, tyX4_ok, nmX4, tyX4_ok 1 (by decide), rfl, rfl, Or.inr ⟨rfl, rfl, tw_147⟩⟩
theorem fl_X4_25 : qFL RX4 25 4 2 := ⟨RX4, TX4, 7, rfl, by decide, cin_4, Or.inl tw_148⟩
theorem pl_X4_25 (x : Nat) : qPL RX4 25 4 2 (.ref x) := ⟨RX4, TX4, 7, tyX4, tyX4 2, rfl, by decide, cin_4, tyX4_ok, nmX4, tyX4_ok 2 (by decide), rfl, rfl, Or.inr ⟨rfl, rfl, tw_148⟩⟩
theorem pl_X4_25n  : qPL RX4 25 4 2 (.null) := ⟨RX4, TX4, 7, tyX4, tyX4 2, rfl, by decide, cin_4, tyX4_ok, nmX4, tyX4_ok 2 (by decide), rfl, rfl, Or.inr ⟨rfl, rfl, tw_148⟩⟩
theorem fl_X4_30 : qFL RX4 30 4 3 := ⟨RX4, TX4, 7, rfl, by decide, cin_4, Or.inl tw_149⟩
theorem pl_X4_30 (x : Nat) : qPL RX4 30 4 3 (.ref x) := ⟨RX4, TX4, 7, tyX4, tyX4 3, rfl, by decide, cin_4, tyX4_ok, nmX4, tyX4_ok 3 (by decide), rfl, rfl, Or.inr ⟨rfl, rfl, tw_149⟩⟩
theorem pl_X4_30n  : qPL RX4 30 4 3 (.null) := ⟨RX4, TX4, 7, tyX4, tyX4 3, rfl, by decide, cin_4, tyX4_ok, nmX4, tyX4_ok 3 (by decide), rfl, rfl, Or.inr ⟨rfl, rfl, tw_149⟩⟩
theorem fl_X4_34 : qFL RX4 34 4 4 := ⟨RX4, TX4, 7, rfl, by decide, cin_4, Or.inl tw_150⟩
theorem pl_X4_34t  : qPL RX4 34 4 4 (.int (qI 1)) := ⟨RX4, TX4, 7, tyX4, tyX4 4, rfl, by decide, cin_4, tyX4_ok, nmX4, tyX4_ok 4 (by decide), rfl, rfl, Or.inl ⟨rfl, Or.inl tw_150⟩⟩
theorem pl_X4_34f  : qPL RX4 34 4 4 (.int (qI 0)) := ⟨RX4, TX4, 7, tyX4, tyX4 4, rfl, by decide, cin_4, tyX4_ok, nmX4, tyX4_ok 4 (by decide), rfl, rfl, Or.inl ⟨rfl, Or.inl tw_150⟩⟩
theorem fl_X4_38 : qFL RX4 38 4 5 := ⟨RX4, TX4, 7, rfl, by decide, cin_4, Or.inl tw_151⟩
theorem pl_X4_38 (x : Int32) : qPL RX4 38 4 5 (.int x) := ⟨RX4, TX4, 7, tyX4, tyX4 5, rfl, by decide, cin_4, tyX4_ok, nmX4, tyX4_ok 5 (by decide), rfl, rfl, Or.inl ⟨rfl, Or.inl tw_151⟩⟩
theorem fl_X4_42 : qFL RX4 42 4 6 := ⟨RX4, TX4, 7, rfl, by decide, cin_4, Or.inl tw_152⟩
theorem pl_X4_42 (x : Nat) : qPL RX4 42 4 6 (.ref x) := ⟨RX4, TX4, 7, tyX4, tyX4 6, rfl, by decide, cin_4, tyX4_ok, nmX4, tyX4_ok 6 (by decide), rfl, rfl, Or.inl ⟨rfl, Or.inl tw_152⟩⟩
theorem pl_X4_42n  : qPL RX4 42 4 6 (.null) := ⟨RX4, TX4, 7, tyX4, tyX4 6, rfl, by decide, cin_4, tyX4_ok, nmX4, tyX4_ok 6 (by decide), rfl, rfl, Or.inl ⟨rfl, Or.inl tw_152⟩⟩
theorem cw_L_101 : qCV RL 101 RX4 yX4_drop cX4_drop 2 (some .boolean) 0 := ⟨⟨tw_169, tw_170, tw_171, tw_1, tw_172⟩, rfl, ⟨by decide +kernel, by decide +kernel, by decide +kernel⟩⟩
theorem cw_L_106 : qCV RL 106 RX4 yX4_rounds cX4_rounds 1 (some .int) 0 := ⟨⟨tw_173, tw_174, tw_175, tw_1, tw_176⟩, rfl, ⟨by decide +kernel, by decide +kernel, by decide +kernel⟩⟩
theorem cw_L_7 : qCV RL 7 RX4 yX4_discriminant cX4_discriminant 3 none 1 := ⟨⟨tw_182, tw_183, tw_184, tw_1, tw_185⟩, rfl, ⟨by decide +kernel, by decide +kernel, by decide +kernel⟩⟩
theorem cw_X4_59 : qCV RX4 59 RX2 yX2_choose cX2_choose 2 none 1 := ⟨⟨tw_272, tw_273, tw_274, tw_2, tw_275⟩, rfl, ⟨by decide +kernel, by decide +kernel, by decide +kernel⟩⟩
theorem cw_X2_50 : qCV RX2 50 RX2 yX2_complete cX2_complete 6 none 3 := ⟨⟨tw_276, tw_277, tw_278, tw_2, tw_279⟩, rfl, ⟨by decide +kernel, by decide +kernel, by decide +kernel⟩⟩
theorem cw_X2_69 : qCSN RX2 69 yX4_quotient cX4_quotient 4 (some .long) 2 := ⟨⟨"SquaringClock", qX_i 281 (by decide +kernel) (by decide +kernel)⟩, ⟨tw_282, tw_1, tw_283⟩, ⟨by decide +kernel, by decide +kernel, by decide +kernel⟩⟩
theorem cw_X2_56 : qCV RX2 56 RX2 yX2_settle cX2_settle 3 none 1 := ⟨⟨tw_285, tw_286, tw_287, tw_2, tw_288⟩, rfl, ⟨by decide +kernel, by decide +kernel, by decide +kernel⟩⟩
theorem cw_X2_91 : qCV RX2 91 RX1 yX1_isReduced cX1_isReduced 1 (some .boolean) 0 := ⟨⟨tw_290, tw_291, tw_292, tw_3, tw_293⟩, rfl, ⟨by decide +kernel, by decide +kernel, by decide +kernel⟩⟩
theorem cw_X2_95 : qCV RX2 95 RX1 yX1_swapEnds cX1_swapEnds 3 none 0 := ⟨⟨tw_294, tw_295, tw_296, tw_3, tw_297⟩, rfl, ⟨by decide +kernel, by decide +kernel, by decide +kernel⟩⟩
theorem cw_X2_98 : qCV RX2 98 RX2 yX2_bringBNearZero cX2_bringBNearZero 2 none 1 := ⟨⟨tw_298, tw_299, tw_300, tw_2, tw_301⟩, rfl, ⟨by decide +kernel, by decide +kernel, by decide +kernel⟩⟩
theorem cw_X2_76 : qCSN RX2 76 yX4_remainder cX4_remainder 6 (some .long) 2 := ⟨⟨"SquaringClock", qX_i 302 (by decide +kernel) (by decide +kernel)⟩, ⟨tw_303, tw_1, tw_304⟩, ⟨by decide +kernel, by decide +kernel, by decide +kernel⟩⟩
theorem cw_L_17 : qCV RL 17 RX4 yX4_begin cX4_begin 3 (some .int) 1 := ⟨⟨tw_308, tw_309, tw_310, tw_1, tw_311⟩, rfl, ⟨by decide +kernel, by decide +kernel, by decide +kernel⟩⟩
theorem cw_X4_63 : qCV RX4 63 RX4 yX4_needDiscriminant cX4_needDiscriminant 1 none 0 := ⟨⟨tw_312, tw_314, qB_p (q := (yX4_needDiscriminant, 7)) 1 (by decide +kernel), tw_1, tw_315⟩, rfl, ⟨by decide +kernel, by decide +kernel, by decide +kernel⟩⟩
theorem cw_X4_66 : qCS RX4 66 yX4_needTurns cX4_needTurns 1 none 1 := ⟨⟨tw_317, tw_318, tw_1, tw_319⟩, rfl, ⟨by decide +kernel, by decide +kernel, by decide +kernel⟩⟩
theorem cw_X4_86 : qCV RX4 86 RX4 yX4_nextExponent cX4_nextExponent 2 (some .int) 0 := ⟨⟨tw_322, tw_324, qB_p (q := (yX4_nextExponent, 7)) 2 (by decide +kernel), tw_1, tw_325⟩, rfl, ⟨by decide +kernel, by decide +kernel, by decide +kernel⟩⟩
theorem cw_X4_231 : qCS RX4 231 yX4_mixed cX4_mixed 3 (some .int) 2 := ⟨⟨tw_326, tw_327, tw_1, tw_328⟩, rfl, ⟨by decide +kernel, by decide +kernel, by decide +kernel⟩⟩
theorem cw_X4_234 : qCS RX4 234 yX4_mixedForm cX4_mixedForm 2 (some .int) 2 := ⟨⟨tw_330, tw_331, tw_1, tw_332⟩, rfl, ⟨by decide +kernel, by decide +kernel, by decide +kernel⟩⟩
theorem cw_X4_100 : qCV RX4 100 RX2 yX2_power cX2_power 5 none 3 := ⟨⟨tw_334, tw_335, tw_336, tw_2, tw_337⟩, rfl, ⟨by decide +kernel, by decide +kernel, by decide +kernel⟩⟩
theorem cw_X2_101 : qCV RX2 101 RX1 yX1_become cX1_become 2 none 1 := ⟨⟨tw_338, tw_339, tw_340, tw_3, tw_341⟩, rfl, ⟨by decide +kernel, by decide +kernel, by decide +kernel⟩⟩
theorem cw_X2_110 : qCV RX2 110 RX2 yX2_product cX2_product 16 none 3 := ⟨⟨tw_342, tw_343, tw_344, tw_2, tw_345⟩, rfl, ⟨by decide +kernel, by decide +kernel, by decide +kernel⟩⟩
theorem cw_X2_83 : qCV RX2 83 RX0 yX0_find cX0_find 18 none 2 := ⟨⟨tw_346, tw_347, tw_348, tw_4, tw_349⟩, rfl, ⟨by decide +kernel, by decide +kernel, by decide +kernel⟩⟩
theorem cw_X0_19 : qCSN RX0 19 yX4_quotient cX4_quotient 4 (some .long) 2 := ⟨⟨"SquaringClock", qX_i 351 (by decide +kernel) (by decide +kernel)⟩, ⟨tw_282, tw_1, tw_283⟩, ⟨by decide +kernel, by decide +kernel, by decide +kernel⟩⟩
theorem cw_X4_107 : qCV RX4 107 RX1 yX1_become cX1_become 2 none 1 := ⟨⟨tw_353, tw_339, tw_340, tw_3, tw_341⟩, rfl, ⟨by decide +kernel, by decide +kernel, by decide +kernel⟩⟩
theorem cw_L_21 : qCV RL 21 RX4 yX4_work cX4_work 4 (some .int) 1 := ⟨⟨tw_357, tw_358, tw_359, tw_1, tw_360⟩, rfl, ⟨by decide +kernel, by decide +kernel, by decide +kernel⟩⟩
theorem cw_X4_125 : qCV RX4 125 RX2 yX2_product cX2_product 16 none 3 := ⟨⟨tw_365, tw_343, tw_344, tw_2, tw_345⟩, rfl, ⟨by decide +kernel, by decide +kernel, by decide +kernel⟩⟩
theorem cw_X4_129 : qCS RX4 129 yX4_primeOf cX4_primeOf 4 (some .int) 3 := ⟨⟨tw_366, tw_367, tw_1, tw_368⟩, rfl, ⟨by decide +kernel, by decide +kernel, by decide +kernel⟩⟩
theorem cw_X4_239 : qCS RX4 239 yX4_leastPrimeFrom cX4_leastPrimeFrom 3 (some .int) 1 := ⟨⟨tw_369, tw_370, tw_1, tw_371⟩, rfl, ⟨by decide +kernel, by decide +kernel, by decide +kernel⟩⟩
theorem cw_X4_250 : qCS RX4 250 yX4_isPrime cX4_isPrime 2 (some .boolean) 1 := ⟨⟨tw_373, tw_374, tw_1, tw_375⟩, rfl, ⟨by decide +kernel, by decide +kernel, by decide +kernel⟩⟩
theorem cw_L_24 : qCV RL 24 RX4 yX4_prove cX4_prove 4 (some .int) 1 := ⟨⟨tw_379, tw_380, tw_381, tw_1, tw_382⟩, rfl, ⟨by decide +kernel, by decide +kernel, by decide +kernel⟩⟩
theorem cw_X4_135 : qCV RX4 135 RX4 yX4_stepOfProof cX4_stepOfProof 2 none 1 := ⟨⟨tw_384, tw_386, qB_p (q := (yX4_stepOfProof, 7)) 3 (by decide +kernel), tw_1, tw_387⟩, rfl, ⟨by decide +kernel, by decide +kernel, by decide +kernel⟩⟩
theorem cw_L_27 : qCV RL 27 RX4 yX4_publish cX4_publish 1 (some .int) 0 := ⟨⟨tw_391, tw_392, tw_393, tw_1, tw_394⟩, rfl, ⟨by decide +kernel, by decide +kernel, by decide +kernel⟩⟩
theorem cw_L_31 : qCV RL 31 RX4 yX4_told cX4_told 4 (some .int) 2 := ⟨⟨tw_400, tw_401, tw_402, tw_1, tw_403⟩, rfl, ⟨by decide +kernel, by decide +kernel, by decide +kernel⟩⟩
theorem cw_X4_141 : qCV RX4 141 RX4 yX4_bookedOrRunning cX4_bookedOrRunning 2 (some (.object "SquaringClock$Round")) 1 := ⟨⟨tw_404, tw_406, qB_p (q := (yX4_bookedOrRunning, 7)) 4 (by decide +kernel), tw_1, tw_407⟩, rfl, ⟨by decide +kernel, by decide +kernel, by decide +kernel⟩⟩
theorem cw_X4_159 : qCV RX4 159 RX4 yX4_bookedRound cX4_bookedRound 2 (some (.object "SquaringClock$Round")) 1 := ⟨⟨tw_408, tw_410, qB_p (q := (yX4_bookedRound, 7)) 5 (by decide +kernel), tw_1, tw_411⟩, rfl, ⟨by decide +kernel, by decide +kernel, by decide +kernel⟩⟩
theorem cw_L_37 : qCV RL 37 RX4 yX4_form cX4_form 5 (some .int) 3 := ⟨⟨tw_432, tw_433, tw_434, tw_1, tw_435⟩, rfl, ⟨by decide +kernel, by decide +kernel, by decide +kernel⟩⟩
theorem cw_X4_150 : qCS RX4 150 yX4_needPart cX4_needPart 1 none 1 := ⟨⟨tw_436, tw_437, tw_1, tw_438⟩, rfl, ⟨by decide +kernel, by decide +kernel, by decide +kernel⟩⟩
theorem cw_X4_153 : qCV RX4 153 RX1 yX1_part cX1_part 2 (some .long) 1 := ⟨⟨tw_440, tw_441, tw_442, tw_3, tw_443⟩, rfl, ⟨by decide +kernel, by decide +kernel, by decide +kernel⟩⟩
theorem cw_L_41 : qCV RL 41 RX4 yX4_verify cX4_verify 3 (some .boolean) 1 := ⟨⟨tw_448, tw_449, tw_450, tw_1, tw_451⟩, rfl, ⟨by decide +kernel, by decide +kernel, by decide +kernel⟩⟩
theorem cw_X4_162 : qCV RX4 162 RX2 yX2_isGeneratorsPower cX2_isGeneratorsPower 3 (some .boolean) 2 := ⟨⟨tw_452, tw_453, tw_454, tw_2, tw_455⟩, rfl, ⟨by decide +kernel, by decide +kernel, by decide +kernel⟩⟩
theorem cw_X2_114 : qCV RX2 114 RX2 yX2_power cX2_power 5 none 3 := ⟨⟨tw_456, tw_335, tw_336, tw_2, tw_337⟩, rfl, ⟨by decide +kernel, by decide +kernel, by decide +kernel⟩⟩
theorem cw_X2_118 : qCV RX2 118 RX1 yX1_isSame cX1_isSame 2 (some .boolean) 1 := ⟨⟨tw_457, tw_458, tw_459, tw_3, tw_460⟩, rfl, ⟨by decide +kernel, by decide +kernel, by decide +kernel⟩⟩
theorem cw_X4_166 : qCV RX4 166 RX2 yX2_holds cX2_holds 6 (some .boolean) 5 := ⟨⟨tw_461, tw_462, tw_463, tw_2, tw_464⟩, rfl, ⟨by decide +kernel, by decide +kernel, by decide +kernel⟩⟩
theorem cw_X2_122 : qCV RX2 122 RX2 yX2_restOfPowerOfTwo cX2_restOfPowerOfTwo 5 (some .int) 2 := ⟨⟨tw_465, tw_466, tw_467, tw_2, tw_468⟩, rfl, ⟨by decide +kernel, by decide +kernel, by decide +kernel⟩⟩
theorem cw_L_45 : qCV RL 45 RX4 yX4_put cX4_put 4 none 3 := ⟨⟨tw_472, tw_473, tw_474, tw_1, tw_475⟩, rfl, ⟨by decide +kernel, by decide +kernel, by decide +kernel⟩⟩
theorem cw_X4_170 : qCS RX4 170 yX4_needSlot cX4_needSlot 1 none 1 := ⟨⟨tw_476, tw_477, tw_1, tw_478⟩, rfl, ⟨by decide +kernel, by decide +kernel, by decide +kernel⟩⟩
theorem cw_X4_175 : qCV RX4 175 RX2 yX2_hasForm cX2_hasForm 7 (some .boolean) 2 := ⟨⟨tw_481, tw_482, tw_483, tw_2, tw_484⟩, rfl, ⟨by decide +kernel, by decide +kernel, by decide +kernel⟩⟩
theorem cw_X2_79 : qCV RX2 79 RX2 yX2_hasNoCommonDivisor cX2_hasNoCommonDivisor 7 (some .boolean) 3 := ⟨⟨tw_485, tw_486, tw_487, tw_2, tw_488⟩, rfl, ⟨by decide +kernel, by decide +kernel, by decide +kernel⟩⟩
theorem cw_X4_181 : qCV RX4 181 RX2 yX2_complete cX2_complete 6 none 3 := ⟨⟨tw_490, tw_277, tw_278, tw_2, tw_279⟩, rfl, ⟨by decide +kernel, by decide +kernel, by decide +kernel⟩⟩
theorem cw_L_49 : qCV RL 49 RX4 yX4_buffer cX4_buffer 3 (some .long) 2 := ⟨⟨tw_495, tw_496, tw_497, tw_1, tw_498⟩, rfl, ⟨by decide +kernel, by decide +kernel, by decide +kernel⟩⟩
theorem cw_X4_185 : qCV RX4 185 RX4 yX4_needFilled cX4_needFilled 2 none 1 := ⟨⟨tw_499, tw_501, qB_p (q := (yX4_needFilled, 7)) 6 (by decide +kernel), tw_1, tw_502⟩, rfl, ⟨by decide +kernel, by decide +kernel, by decide +kernel⟩⟩
theorem cw_L_55 : qCV RL 55 RX4 yX4_reduce cX4_reduce 3 none 2 := ⟨⟨tw_522, tw_523, tw_524, tw_1, tw_525⟩, rfl, ⟨by decide +kernel, by decide +kernel, by decide +kernel⟩⟩
theorem cw_X4_188 : qCV RX4 188 RX2 yX2_settle cX2_settle 3 none 1 := ⟨⟨tw_526, tw_286, tw_287, tw_2, tw_288⟩, rfl, ⟨by decide +kernel, by decide +kernel, by decide +kernel⟩⟩
theorem cw_L_59 : qCV RL 59 RX4 yX4_multiply cX4_multiply 4 none 3 := ⟨⟨tw_530, tw_531, tw_532, tw_1, tw_533⟩, rfl, ⟨by decide +kernel, by decide +kernel, by decide +kernel⟩⟩
theorem cw_L_62 : qCV RL 62 RX4 yX4_raise cX4_raise 4 none 3 := ⟨⟨tw_537, tw_538, tw_539, tw_1, tw_540⟩, rfl, ⟨by decide +kernel, by decide +kernel, by decide +kernel⟩⟩
theorem cw_L_65 : qCV RL 65 RX4 yX4_test cX4_test 7 (some .int) 1 := ⟨⟨tw_545, tw_546, tw_547, tw_1, tw_548⟩, rfl, ⟨by decide +kernel, by decide +kernel, by decide +kernel⟩⟩
theorem cw_X4_193 : qCV RX4 193 RX1 yX1_isSame cX1_isSame 2 (some .boolean) 1 := ⟨⟨tw_549, tw_458, tw_459, tw_3, tw_460⟩, rfl, ⟨by decide +kernel, by decide +kernel, by decide +kernel⟩⟩
theorem cw_X4_197 : qCV RX4 197 RX1 yX1_isReduced cX1_isReduced 1 (some .boolean) 0 := ⟨⟨tw_550, tw_291, tw_292, tw_3, tw_293⟩, rfl, ⟨by decide +kernel, by decide +kernel, by decide +kernel⟩⟩
theorem cw_L_68 : qCV RL 68 RX4 yX4_order cX4_order 2 (some .int) 1 := ⟨⟨tw_554, tw_555, tw_556, tw_1, tw_557⟩, rfl, ⟨by decide +kernel, by decide +kernel, by decide +kernel⟩⟩
theorem cw_X4_203 : qCV RX4 203 RX2 yX2_generatorsOrder cX2_generatorsOrder 3 (some .int) 1 := ⟨⟨tw_559, tw_560, tw_561, tw_2, tw_562⟩, rfl, ⟨by decide +kernel, by decide +kernel, by decide +kernel⟩⟩
theorem cw_L_71 : qCV RL 71 RX4 yX4_classes cX4_classes 1 (some .int) 0 := ⟨⟨tw_566, tw_567, tw_568, tw_1, tw_569⟩, rfl, ⟨by decide +kernel, by decide +kernel, by decide +kernel⟩⟩
theorem cw_X4_213 : qCV RX4 213 RX2 yX2_countReduced cX2_countReduced 8 (some .int) 0 := ⟨⟨tw_572, tw_573, tw_574, tw_2, tw_575⟩, rfl, ⟨by decide +kernel, by decide +kernel, by decide +kernel⟩⟩
theorem cw_L_77 : qCI RL 77 yX5_init cX5_init 1 0 := ⟨Or.inl tw_579, ⟨tw_580, tw_6, tw_581⟩, rfl, ⟨by decide +kernel, by decide +kernel, by decide +kernel⟩⟩
theorem fl_X5_27 : qFL RX5 27 5 0 := ⟨RX5, TX5, 12, rfl, by decide, cin_5, Or.inl tw_583⟩
theorem pl_X5_27 (x : Int32) : qPL RX5 27 5 0 (.int x) := ⟨RX5, TX5, 12, tyX5, tyX5 0, rfl, by decide, cin_5, tyX5_ok, nmX5, tyX5_ok 0 (by decide), rfl, rfl, Or.inl ⟨rfl, Or.inl tw_583⟩⟩
theorem fl_X5_90 : qFL RX5 90 5 1 := ⟨RX5, TX5, 12, rfl, by decide, cin_5, Or.inl tw_584⟩
theorem pl_X5_90 (x : Int64) : qPL RX5 90 5 1 (.long x) := ⟨RX5, TX5, 12, tyX5, tyX5 1, rfl, by decide, cin_5, tyX5_ok, nmX5, tyX5_ok 1 (by decide), rfl, rfl, Or.inl ⟨rfl, Or.inl tw_584⟩⟩
theorem fl_X5_7 : qFL RX5 7 5 2 := ⟨RX5, TX5, 12, rfl, by decide, cin_5, Or.inl tw_585⟩
theorem pl_X5_7 (x : Nat) : qPL RX5 7 5 2 (.ref x) := ⟨RX5, TX5, 12, tyX5, tyX5 2, rfl, by decide, cin_5, tyX5_ok, nmX5, tyX5_ok 2 (by decide), rfl, rfl, Or.inr ⟨rfl, rfl, tw_585⟩⟩
theorem pl_X5_7n  : qPL RX5 7 5 2 (.null) := ⟨RX5, TX5, 12, tyX5, tyX5 2, rfl, by decide, cin_5, tyX5_ok, nmX5, tyX5_ok 2 (by decide), rfl, rfl, Or.inr ⟨rfl, rfl, tw_585⟩⟩
theorem fl_X5_13 : qFL RX5 13 5 3 := ⟨RX5, TX5, 12, rfl, by decide, cin_5, Or.inl tw_586⟩
theorem pl_X5_13 (x : Nat) : qPL RX5 13 5 3 (.ref x) := ⟨RX5, TX5, 12, tyX5, tyX5 3, rfl, by decide, cin_5, tyX5_ok, nmX5, tyX5_ok 3 (by decide), rfl, rfl, Or.inr ⟨rfl, rfl, tw_586⟩⟩
theorem pl_X5_13n  : qPL RX5 13 5 3 (.null) := ⟨RX5, TX5, 12, tyX5, tyX5 3, rfl, by decide, cin_5, tyX5_ok, nmX5, tyX5_ok 3 (by decide), rfl, rfl, Or.inr ⟨rfl, rfl, tw_586⟩⟩
theorem fl_X5_16 : qFL RX5 16 5 4 := ⟨RX5, TX5, 12, rfl, by decide, cin_5, Or.inl tw_587⟩
theorem pl_X5_16 (x : Nat) : qPL RX5 16 5 4 (.ref x) := ⟨RX5, TX5, 12, tyX5, tyX5 4, rfl, by decide, cin_5, tyX5_ok, nmX5, tyX5_ok 4 (by decide), rfl, rfl, Or.inr ⟨rfl, rfl, tw_587⟩⟩
theorem pl_X5_16n  : qPL RX5 16 5 4 (.null) := ⟨RX5, TX5, 12, tyX5, tyX5 4, rfl, by decide, cin_5, tyX5_ok, nmX5, tyX5_ok 4 (by decide), rfl, rfl, Or.inr ⟨rfl, rfl, tw_587⟩⟩
theorem fl_X5_19 : qFL RX5 19 5 5 := ⟨RX5, TX5, 12, rfl, by decide, cin_5, Or.inl tw_588⟩
theorem pl_X5_19 (x : Nat) : qPL RX5 19 5 5 (.ref x) := ⟨RX5, TX5, 12, tyX5, tyX5 5, rfl, by decide, cin_5, tyX5_ok, nmX5, tyX5_ok 5 (by decide), rfl, rfl, Or.inr ⟨rfl, rfl, tw_588⟩⟩
theorem pl_X5_19n  : qPL RX5 19 5 5 (.null) := ⟨RX5, TX5, 12, tyX5, tyX5 5, rfl, by decide, cin_5, tyX5_ok, nmX5, tyX5_ok 5 (by decide), rfl, rfl, Or.inr ⟨rfl, rfl, tw_588⟩⟩
theorem fl_X5_86 : qFL RX5 86 5 6 := ⟨RX5, TX5, 12, rfl, by decide, cin_5, Or.inl tw_589⟩
theorem pl_X5_86t  : qPL RX5 86 5 6 (.int (qI 1)) := ⟨RX5, TX5, 12, tyX5, tyX5 6, rfl, by decide, cin_5, tyX5_ok, nmX5, tyX5_ok 6 (by decide), rfl, rfl, Or.inl ⟨rfl, Or.inl tw_589⟩⟩
theorem pl_X5_86f  : qPL RX5 86 5 6 (.int (qI 0)) := ⟨RX5, TX5, 12, tyX5, tyX5 6, rfl, by decide, cin_5, tyX5_ok, nmX5, tyX5_ok 6 (by decide), rfl, rfl, Or.inl ⟨rfl, Or.inl tw_589⟩⟩
theorem fl_X5_94 : qFL RX5 94 5 7 := ⟨RX5, TX5, 12, rfl, by decide, cin_5, Or.inl tw_590⟩
theorem pl_X5_94 (x : Int32) : qPL RX5 94 5 7 (.int x) := ⟨RX5, TX5, 12, tyX5, tyX5 7, rfl, by decide, cin_5, tyX5_ok, nmX5, tyX5_ok 7 (by decide), rfl, rfl, Or.inl ⟨rfl, Or.inl tw_590⟩⟩
theorem fl_X5_23 : qFL RX5 23 5 8 := ⟨RX5, TX5, 12, rfl, by decide, cin_5, Or.inl tw_591⟩
theorem pl_X5_23 (x : Nat) : qPL RX5 23 5 8 (.ref x) := ⟨RX5, TX5, 12, tyX5, tyX5 8, rfl, by decide, cin_5, tyX5_ok, nmX5, tyX5_ok 8 (by decide), rfl, rfl, Or.inr ⟨rfl, rfl, tw_591⟩⟩
theorem pl_X5_23n  : qPL RX5 23 5 8 (.null) := ⟨RX5, TX5, 12, tyX5, tyX5 8, rfl, by decide, cin_5, tyX5_ok, nmX5, tyX5_ok 8 (by decide), rfl, rfl, Or.inr ⟨rfl, rfl, tw_591⟩⟩
theorem fl_X5_108 : qFL RX5 108 5 9 := ⟨RX5, TX5, 12, rfl, by decide, cin_5, Or.inl tw_592⟩
theorem pl_X5_108 (x : Int32) : qPL RX5 108 5 9 (.int x) := ⟨RX5, TX5, 12, tyX5, tyX5 9, rfl, by decide, cin_5, tyX5_ok, nmX5, tyX5_ok 9 (by decide), rfl, rfl, Or.inl ⟨rfl, Or.inl tw_592⟩⟩
theorem fl_X5_111 : qFL RX5 111 5 10 := ⟨RX5, TX5, 12, rfl, by decide, cin_5, Or.inl tw_593⟩
theorem pl_X5_111 (x : Int32) : qPL RX5 111 5 10 (.int x) := ⟨RX5, TX5, 12, tyX5, tyX5 10, rfl, by decide, cin_5, tyX5_ok, nmX5, tyX5_ok 10 (by decide), rfl, rfl, Or.inl ⟨rfl, Or.inl tw_593⟩⟩
theorem fl_X5_114 : qFL RX5 114 5 11 := ⟨RX5, TX5, 12, rfl, by decide, cin_5, Or.inl tw_594⟩
theorem pl_X5_114 (x : Int32) : qPL RX5 114 5 11 (.int x) := ⟨RX5, TX5, 12, tyX5, tyX5 11, rfl, by decide, cin_5, tyX5_ok, nmX5, tyX5_ok 11 (by decide), rfl, rfl, Or.inl ⟨rfl, Or.inl tw_594⟩⟩
theorem cw_L_84 : qCV RL 84 RX5 yX5_thrown cX5_thrown 1 (some .int) 0 := ⟨⟨tw_622, tw_623, tw_624, tw_6, tw_625⟩, rfl, ⟨by decide +kernel, by decide +kernel, by decide +kernel⟩⟩
theorem cw_L_83 : qCV RL 83 RX5 yX5_discriminant cX5_discriminant 3 none 1 := ⟨⟨tw_626, tw_627, tw_628, tw_6, tw_629⟩, rfl, ⟨by decide +kernel, by decide +kernel, by decide +kernel⟩⟩
theorem cw_X5_35 : qCV RX5 35 RX5 yX5_set cX5_set 8 none 4 := ⟨⟨tw_632, tw_634, qB_p (q := (yX5_set, 12)) 7 (by decide +kernel), tw_6, tw_635⟩, rfl, ⟨by decide +kernel, by decide +kernel, by decide +kernel⟩⟩
theorem cw_X5_58 : qCV RX5 58 RX5 yX5_settle cX5_settle 6 none 1 := ⟨⟨tw_638, tw_640, qB_p (q := (yX5_settle, 12)) 8 (by decide +kernel), tw_6, tw_641⟩, rfl, ⟨by decide +kernel, by decide +kernel, by decide +kernel⟩⟩
theorem cw_X5_39 : qCV RX5 39 RX5 yX5_isReduced cX5_isReduced 2 (some .boolean) 1 := ⟨⟨tw_642, tw_644, qB_p (q := (yX5_isReduced, 12)) 9 (by decide +kernel), tw_6, tw_645⟩, rfl, ⟨by decide +kernel, by decide +kernel, by decide +kernel⟩⟩
theorem cw_X5_45 : qCS RX5 45 yX5_down cX5_down 6 (some .long) 2 := ⟨⟨tw_646, tw_647, tw_6, tw_648⟩, rfl, ⟨by decide +kernel, by decide +kernel, by decide +kernel⟩⟩
theorem cw_L_90 : qCV RL 90 RX5 yX5_begin cX5_begin 3 (some .int) 1 := ⟨⟨tw_649, tw_650, tw_651, tw_6, tw_652⟩, rfl, ⟨by decide +kernel, by decide +kernel, by decide +kernel⟩⟩
theorem cw_X5_101 : qCV RX5 101 RX5 yX5_isAny cX5_isAny 1 (some .boolean) 0 := ⟨⟨tw_653, tw_655, qB_p (q := (yX5_isAny, 12)) 10 (by decide +kernel), tw_6, tw_656⟩, rfl, ⟨by decide +kernel, by decide +kernel, by decide +kernel⟩⟩
theorem cw_X5_74 : qCS RX5 74 yX5_mix cX5_mix 3 (some .int) 2 := ⟨⟨tw_657, tw_658, tw_6, tw_659⟩, rfl, ⟨by decide +kernel, by decide +kernel, by decide +kernel⟩⟩
theorem cw_X5_78 : qCV RX5 78 RX5 yX5_mixForm cX5_mixForm 3 (some .int) 2 := ⟨⟨tw_661, tw_663, qB_p (q := (yX5_mixForm, 12)) 11 (by decide +kernel), tw_6, tw_664⟩, rfl, ⟨by decide +kernel, by decide +kernel, by decide +kernel⟩⟩
theorem cw_X5_105 : qCV RX5 105 RX5 yX5_raiseTo cX5_raiseTo 5 none 3 := ⟨⟨tw_666, tw_668, qB_p (q := (yX5_raiseTo, 12)) 12 (by decide +kernel), tw_6, tw_669⟩, rfl, ⟨by decide +kernel, by decide +kernel, by decide +kernel⟩⟩
theorem cw_X5_62 : qCV RX5 62 RX5 yX5_copy cX5_copy 3 none 2 := ⟨⟨tw_670, tw_672, qB_p (q := (yX5_copy, 12)) 13 (by decide +kernel), tw_6, tw_673⟩, rfl, ⟨by decide +kernel, by decide +kernel, by decide +kernel⟩⟩
theorem cw_X5_69 : qCV RX5 69 RX5 yX5_times cX5_times 10 none 3 := ⟨⟨tw_674, tw_676, qB_p (q := (yX5_times, 12)) 14 (by decide +kernel), tw_6, tw_677⟩, rfl, ⟨by decide +kernel, by decide +kernel, by decide +kernel⟩⟩
theorem cw_X5_66 : qCV RX5 66 RX5 yX5_unite cX5_unite 27 none 1 := ⟨⟨tw_678, tw_680, qB_p (q := (yX5_unite, 12)) 15 (by decide +kernel), tw_6, tw_681⟩, rfl, ⟨by decide +kernel, by decide +kernel, by decide +kernel⟩⟩
theorem cw_X5_48 : qCS RX5 48 yX5_divisor cX5_divisor 10 (some .long) 2 := ⟨⟨tw_682, tw_683, tw_6, tw_684⟩, rfl, ⟨by decide +kernel, by decide +kernel, by decide +kernel⟩⟩
theorem cw_X5_51 : qCS RX5 51 yX5_valueOf cX5_valueOf 10 (some .long) 5 := ⟨⟨tw_685, tw_686, tw_6, tw_687⟩, rfl, ⟨by decide +kernel, by decide +kernel, by decide +kernel⟩⟩
theorem cw_X5_55 : qCS RX5 55 yX5_inverse cX5_inverse 16 (some .long) 2 := ⟨⟨tw_688, tw_689, tw_6, tw_690⟩, rfl, ⟨by decide +kernel, by decide +kernel, by decide +kernel⟩⟩
theorem cw_X5_31 : qCS RX5 31 yX5_modulo cX5_modulo 6 (some .long) 2 := ⟨⟨tw_691, tw_692, tw_6, tw_693⟩, rfl, ⟨by decide +kernel, by decide +kernel, by decide +kernel⟩⟩
theorem cw_L_93 : qCV RL 93 RX5 yX5_work cX5_work 3 (some .int) 1 := ⟨⟨tw_694, tw_695, tw_696, tw_6, tw_697⟩, rfl, ⟨by decide +kernel, by decide +kernel, by decide +kernel⟩⟩
theorem cw_X5_117 : qCS RX5 117 yX5_isMany cX5_isMany 1 (some .boolean) 1 := ⟨⟨tw_698, tw_699, tw_6, tw_700⟩, rfl, ⟨by decide +kernel, by decide +kernel, by decide +kernel⟩⟩
theorem cw_X5_120 : qCV RX5 120 RX5 yX5_primeOf cX5_primeOf 5 (some .int) 3 := ⟨⟨tw_701, tw_703, qB_p (q := (yX5_primeOf, 12)) 16 (by decide +kernel), tw_6, tw_704⟩, rfl, ⟨by decide +kernel, by decide +kernel, by decide +kernel⟩⟩
theorem cw_X5_82 : qCS RX5 82 yX5_isPrime cX5_isPrime 2 (some .boolean) 1 := ⟨⟨tw_705, tw_706, tw_6, tw_707⟩, rfl, ⟨by decide +kernel, by decide +kernel, by decide +kernel⟩⟩
theorem cw_L_96 : qCV RL 96 RX5 yX5_prove cX5_prove 3 (some .int) 1 := ⟨⟨tw_708, tw_709, tw_710, tw_6, tw_711⟩, rfl, ⟨by decide +kernel, by decide +kernel, by decide +kernel⟩⟩
theorem cw_L_100 : qCV RL 100 RX5 yX5_publish cX5_publish 2 (some .int) 0 := ⟨⟨tw_712, tw_713, tw_714, tw_6, tw_715⟩, rfl, ⟨by decide +kernel, by decide +kernel, by decide +kernel⟩⟩
theorem cw_L_105 : qCV RL 105 RX5 yX5_drop cX5_drop 2 (some .boolean) 0 := ⟨⟨tw_716, tw_717, tw_718, tw_6, tw_719⟩, rfl, ⟨by decide +kernel, by decide +kernel, by decide +kernel⟩⟩
theorem cw_L_109 : qCV RL 109 RX5 yX5_rounds cX5_rounds 1 (some .int) 0 := ⟨⟨tw_720, tw_721, tw_722, tw_6, tw_723⟩, rfl, ⟨by decide +kernel, by decide +kernel, by decide +kernel⟩⟩
theorem cw_L_113 : qCV RL 113 RX5 yX5_told cX5_told 3 (some .int) 2 := ⟨⟨tw_724, tw_725, tw_726, tw_6, tw_727⟩, rfl, ⟨by decide +kernel, by decide +kernel, by decide +kernel⟩⟩
theorem cw_X5_124 : qCV RX5 124 RX5 yX5_place cX5_place 2 (some .int) 1 := ⟨⟨tw_728, tw_730, qB_p (q := (yX5_place, 12)) 17 (by decide +kernel), tw_6, tw_731⟩, rfl, ⟨by decide +kernel, by decide +kernel, by decide +kernel⟩⟩
theorem cw_L_117 : qCV RL 117 RX5 yX5_form cX5_form 4 (some .int) 3 := ⟨⟨tw_732, tw_733, tw_734, tw_6, tw_735⟩, rfl, ⟨by decide +kernel, by decide +kernel, by decide +kernel⟩⟩
theorem cw_X5_128 : qCV RX5 128 RX5 yX5_partOf cX5_partOf 3 (some .long) 2 := ⟨⟨tw_736, tw_738, qB_p (q := (yX5_partOf, 12)) 18 (by decide +kernel), tw_6, tw_739⟩, rfl, ⟨by decide +kernel, by decide +kernel, by decide +kernel⟩⟩
theorem cw_L_120 : qCV RL 120 RX5 yX5_verify cX5_verify 3 (some .boolean) 1 := ⟨⟨tw_740, tw_741, tw_742, tw_6, tw_743⟩, rfl, ⟨by decide +kernel, by decide +kernel, by decide +kernel⟩⟩
theorem cw_X5_135 : qCV RX5 135 RX5 yX5_same cX5_same 3 (some .boolean) 2 := ⟨⟨tw_744, tw_746, qB_p (q := (yX5_same, 12)) 19 (by decide +kernel), tw_6, tw_747⟩, rfl, ⟨by decide +kernel, by decide +kernel, by decide +kernel⟩⟩
theorem cw_X5_139 : qCV RX5 139 RX5 yX5_holds cX5_holds 6 (some .boolean) 5 := ⟨⟨tw_748, tw_750, qB_p (q := (yX5_holds, 12)) 20 (by decide +kernel), tw_6, tw_751⟩, rfl, ⟨by decide +kernel, by decide +kernel, by decide +kernel⟩⟩
theorem cw_X5_132 : qCS RX5 132 yX5_restOf cX5_restOf 4 (some .int) 2 := ⟨⟨tw_752, tw_753, tw_6, tw_754⟩, rfl, ⟨by decide +kernel, by decide +kernel, by decide +kernel⟩⟩
theorem cw_L_124 : qCV RL 124 RX5 yX5_put cX5_put 8 none 3 := ⟨⟨tw_755, tw_756, tw_757, tw_6, tw_758⟩, rfl, ⟨by decide +kernel, by decide +kernel, by decide +kernel⟩⟩
theorem cw_X5_145 : qCS RX5 145 yX5_isPlace cX5_isPlace 1 (some .boolean) 1 := ⟨⟨tw_761, tw_762, tw_6, tw_763⟩, rfl, ⟨by decide +kernel, by decide +kernel, by decide +kernel⟩⟩
theorem cw_L_127 : qCV RL 127 RX5 yX5_buffer cX5_buffer 3 (some .long) 2 := ⟨⟨tw_764, tw_765, tw_766, tw_6, tw_767⟩, rfl, ⟨by decide +kernel, by decide +kernel, by decide +kernel⟩⟩
theorem cw_L_131 : qCV RL 131 RX5 yX5_reduce cX5_reduce 3 none 2 := ⟨⟨tw_768, tw_769, tw_770, tw_6, tw_771⟩, rfl, ⟨by decide +kernel, by decide +kernel, by decide +kernel⟩⟩
theorem cw_L_134 : qCV RL 134 RX5 yX5_multiply cX5_multiply 4 none 3 := ⟨⟨tw_772, tw_773, tw_774, tw_6, tw_775⟩, rfl, ⟨by decide +kernel, by decide +kernel, by decide +kernel⟩⟩
theorem cw_L_137 : qCV RL 137 RX5 yX5_raise cX5_raise 4 none 3 := ⟨⟨tw_776, tw_777, tw_778, tw_6, tw_779⟩, rfl, ⟨by decide +kernel, by decide +kernel, by decide +kernel⟩⟩
theorem cw_L_140 : qCV RL 140 RX5 yX5_test cX5_test 3 (some .int) 1 := ⟨⟨tw_780, tw_781, tw_782, tw_6, tw_783⟩, rfl, ⟨by decide +kernel, by decide +kernel, by decide +kernel⟩⟩
theorem cw_L_143 : qCV RL 143 RX5 yX5_order cX5_order 3 (some .int) 1 := ⟨⟨tw_784, tw_785, tw_786, tw_6, tw_787⟩, rfl, ⟨by decide +kernel, by decide +kernel, by decide +kernel⟩⟩
theorem cw_L_146 : qCV RL 146 RX5 yX5_classes cX5_classes 8 (some .int) 0 := ⟨⟨tw_788, tw_789, tw_790, tw_6, tw_791⟩, rfl, ⟨by decide +kernel, by decide +kernel, by decide +kernel⟩⟩
