/-! ===== what the constructors leave is as told ===== -/
theorem zc_TI0 (a i : Int) : zc_tk 0 a i (zc_I0 a i) := by
  show zc_t0 a i (zc_I0 a i)
  by_cases j0 : i = 0
  · subst j0; exact (show (1 : Int) = 1 from rfl)
  by_cases j1 : i = 1
  · subst j1; exact (show (3 : Int) = 3 from rfl)
  by_cases j2 : i = 2
  · subst j2; exact (show (132 : Int) = 132 from rfl)
  by_cases j3 : i = 3
  · subst j3; exact (show (134 : Int) = 134 from rfl)
  by_cases j4 : i = 4
  · subst j4; exact (show (139 : Int) = 139 from rfl)
  by_cases j5 : i = 5
  · subst j5; exact (show (140 : Int) = 140 from rfl)
  by_cases j6 : i = 6
  · subst j6; exact (show (255 : Int) = 255 from rfl)
  by_cases j7 : i = 7
  · subst j7; exact (show (276 : Int) = 276 from rfl)
  unfold zc_t0
  rw [if_neg j0, if_neg j1, if_neg j2, if_neg j3, if_neg j4, if_neg j5, if_neg j6, if_neg j7]
  trivial
theorem zc_TI1 (a i : Int) : zc_tk 1 a i (zc_I1 a i) := by
  show zc_t1 a i (zc_I1 a i)
  by_cases j0 : i = 0
  · subst j0; exact (show (2 : Int) = 2 from rfl)
  by_cases j1 : i = 1
  · subst j1; exact (show 0 ≤ (0 : Int) ∧ (0 : Int) ≤ 80 by decide)
  by_cases j2 : i = 2
  · subst j2; exact (show 0 ≤ (0 : Int) ∧ (0 : Int) ≤ 80 by decide)
  by_cases j3 : i = 3
  · subst j3; exact (show 0 ≤ (0 : Int) ∧ (0 : Int) ≤ 80 by decide)
  unfold zc_t1
  rw [if_neg j0, if_neg j1, if_neg j2, if_neg j3]
  trivial
theorem zc_TI2 (a i : Int) : zc_tk 2 a i (zc_I2 a i) := by show 0 ≤ (0 : Int) ∧ (0 : Int) ≤ 255; decide
theorem zc_TI3 (a i : Int) : zc_tk 3 a i (zc_I3 a i) := by
  show zc_t3 a i (zc_I3 a i)
  by_cases j0 : i = 0
  · subst j0; exact (show 0 ≤ (0 : Int) ∧ (0 : Int) ≤ 8 by decide)
  by_cases j1 : i = 1
  · subst j1; exact (show 0 ≤ (0 : Int) ∧ (0 : Int) ≤ 3 by decide)
  by_cases j2 : i = 2
  · subst j2; exact (show 0 ≤ (0 : Int) ∧ (0 : Int) ≤ 12 by decide)
  by_cases j3 : i = 3
  · subst j3; exact (show 0 ≤ (0 : Int) ∧ (0 : Int) ≤ 20 by decide)
  by_cases j4 : i = 4
  · subst j4; exact (show zq_in 0 by decide)
  by_cases j5 : i = 5
  · subst j5; exact (show zc_kd 4 = 4 from rfl)
  by_cases j6 : i = 6
  · subst j6; exact (show (10 : Int) = 10 from rfl)
  by_cases j7 : i = 7
  · subst j7; exact (show (11 : Int) = 11 from rfl)
  unfold zc_t3
  rw [if_neg j0, if_neg j1, if_neg j2, if_neg j3, if_neg j4, if_neg j5, if_neg j6, if_neg j7]
  trivial
theorem zc_TI4 (a i : Int) : zc_tk 4 a i (zc_I4 a i) := by
  show zc_t4 a i (zc_I4 a i)
  by_cases j0 : i = 0
  · subst j0; exact (show zq_in 0 by decide)
  by_cases j1 : i = 1
  · subst j1; exact (show zq_in 0 by decide)
  by_cases j2 : i = 2
  · subst j2; exact (show 0 ≤ (0 : Int) ∧ (0 : Int) ≤ 4095 by decide)
  by_cases j3 : i = 3
  · subst j3; exact (show a + 1 = a + 1 from rfl)
  by_cases j4 : i = 4
  · subst j4; exact (show zq_in 0 by decide)
  by_cases j5 : i = 5
  · subst j5; exact (show 0 ≤ (0 : Int) ∧ (0 : Int) ≤ 9 by decide)
  by_cases j6 : i = 6
  · subst j6; exact (show 0 ≤ (0 : Int) ∧ (0 : Int) ≤ 3 by decide)
  by_cases j7 : i = 7
  · subst j7; exact (show a + 2 = a + 2 from rfl)
  by_cases j8 : i = 8
  · subst j8; exact (show a + 3 = a + 3 from rfl)
  by_cases j9 : i = 9
  · subst j9; exact (show a + 4 = a + 4 from rfl)
  by_cases j10 : i = 10
  · subst j10; exact (show a + 5 = a + 5 from rfl)
  by_cases j11 : i = 11
  · subst j11; exact (show zq_in 0 by decide)
  by_cases j12 : i = 12
  · subst j12; exact (show zq_in 0 by decide)
  by_cases j13 : i = 13
  · subst j13; exact (show zq_in 0 by decide)
  by_cases j14 : i = 14
  · subst j14; exact (show zq_in 0 by decide)
  by_cases j15 : i = 15
  · subst j15; exact (show zq_in 0 by decide)
  by_cases j16 : i = 16
  · subst j16; exact (show zq_in 0 by decide)
  unfold zc_t4
  rw [if_neg j0, if_neg j1, if_neg j2, if_neg j3, if_neg j4, if_neg j5, if_neg j6, if_neg j7, if_neg j8, if_neg j9, if_neg j10, if_neg j11, if_neg j12, if_neg j13, if_neg j14, if_neg j15, if_neg j16]
  trivial
theorem zc_TI5 (a i : Int) : zc_tk 5 a i (zc_I5 a i) := by show zq_in 0; decide
theorem zc_TI6 (a i : Int) : zc_tk 6 a i (zc_I6 a i) := by show 0 ≤ (0 : Int) ∧ (0 : Int) ≤ 9; decide
theorem zc_TI7 (a i : Int) : zc_tk 7 a i (zc_I7 a i) := ⟨by show (0 : Int) ≤ 0; decide, by show (0 : Int) ≤ 271; decide, Or.inl (by show (0 : Int) ≤ 9; decide)⟩
theorem zc_TI8 (a i : Int) : zc_tk 8 a i (zc_I8 a i) := by show zq_in 0; decide
theorem zc_TI9 (a i : Int) : zc_tk 9 a i (zc_I9 a i) := ⟨by show (0 : Int) ≤ 0; decide, by show (0 : Int) ≤ 271; decide, Or.inl (by show (0 : Int) ≤ 9; decide)⟩
theorem zc_TI10 (a i : Int) : zc_tk 10 a i (zc_I10 a i) := fun h0 h1 => by
  show zc_kd (zc_I10 a i) = 4
  unfold zc_I10
  rw [if_pos ⟨h0, h1⟩]
  unfold zc_kd
  repeat' split
  all_goals omega
theorem zc_TI11 (a i : Int) : zc_tk 11 a i (zc_I11 a i) := by show -1 ≤ (0 : Int) ∧ (0 : Int) ≤ 19; decide
theorem zc_TI132 (a i : Int) : zc_tk 132 a i (zc_I132 a i) := by
  show zc_t132 a i (zc_I132 a i)
  by_cases j0 : i = 0
  · subst j0; exact (show (1 : Int) = 1 from rfl)
  by_cases j1 : i = 1
  · subst j1; exact (show (3 : Int) = 3 from rfl)
  by_cases j2 : i = 2
  · subst j2; exact (show (133 : Int) = 133 from rfl)
  by_cases j3 : i = 3
  · subst j3; exact (show 0 ≤ (0 : Int) ∧ (0 : Int) ≤ 16 by decide)
  unfold zc_t132
  rw [if_neg j0, if_neg j1, if_neg j2, if_neg j3]
  trivial
theorem zc_TI133 (a i : Int) : zc_tk 133 a i (zc_I133 a i) := by show zq_in 0; decide
theorem zc_TI134 (a i : Int) : zc_tk 134 a i (zc_I134 a i) := by
  show zc_t134 a i (zc_I134 a i)
  by_cases j0 : i = 0
  · subst j0; exact (show 0 ≤ (3 : Int) ∧ (3 : Int) ≤ 3 by decide)
  by_cases j1 : i = 1
  · subst j1; exact (show (135 : Int) = 135 from rfl)
  by_cases j2 : i = 2
  · subst j2; exact (show (136 : Int) = 136 from rfl)
  by_cases j3 : i = 3
  · subst j3; exact (show (137 : Int) = 137 from rfl)
  by_cases j4 : i = 4
  · subst j4; exact (show (138 : Int) = 138 from rfl)
  by_cases j5 : i = 5
  · subst j5; exact (show 0 ≤ (0 : Int) ∧ (0 : Int) ≤ 10 by decide)
  unfold zc_t134
  rw [if_neg j0, if_neg j1, if_neg j2, if_neg j3, if_neg j4, if_neg j5]
  trivial
theorem zc_TI135 (a i : Int) : zc_tk 135 a i (zc_I135 a i) := by show -1 ≤ (0 : Int) ∧ (0 : Int) ≤ 3; decide
theorem zc_TI136 (a i : Int) : zc_tk 136 a i (zc_I136 a i) := by show -1 ≤ (0 : Int) ∧ (0 : Int) ≤ 3; decide
theorem zc_TI137 (a i : Int) : zc_tk 137 a i (zc_I137 a i) := by show -1 ≤ (0 : Int) ∧ (0 : Int) ≤ 3; decide
theorem zc_TI138 (a i : Int) : zc_tk 138 a i (zc_I138 a i) := by show 0 ≤ (0 : Int) ∧ (0 : Int) ≤ 9; decide
theorem zc_TI139 (a i : Int) : zc_tk 139 a i (zc_I139 a i) := by show zq_in 0; decide
theorem zc_TI140 (a i : Int) : zc_tk 140 a i (zc_I140 a i) := by
  show zc_t140 a i (zc_I140 a i)
  by_cases j0 : i = 0
  · subst j0; exact (show (3 : Int) = 3 from rfl)
  by_cases j1 : i = 1
  · subst j1; exact (show (139 : Int) = 139 from rfl)
  by_cases j2 : i = 2
  · subst j2; exact (show (141 : Int) = 141 from rfl)
  by_cases j3 : i = 3
  · subst j3; exact (show (147 : Int) = 147 from rfl)
  by_cases j4 : i = 4
  · subst j4; exact (show (153 : Int) = 153 from rfl)
  by_cases j5 : i = 5
  · subst j5; exact (show 0 ≤ (0 : Int) ∧ (0 : Int) ≤ 100 by decide)
  by_cases j6 : i = 6
  · subst j6; exact (show 0 ≤ (0 : Int) ∧ (0 : Int) ≤ 99 by decide)
  by_cases j7 : i = 7
  · subst j7; exact (show (254 : Int) = 254 from rfl)
  by_cases j8 : i = 8
  · subst j8; exact (show zq_in 0 by decide)
  by_cases j9 : i = 9
  · subst j9; exact (show zq_in 0 by decide)
  by_cases j10 : i = 10
  · subst j10; exact (show zq_in 0 by decide)
  by_cases j11 : i = 11
  · subst j11; exact (show zq_in 0 by decide)
  by_cases j12 : i = 12
  · subst j12; exact (show zq_in 0 by decide)
  by_cases j13 : i = 13
  · subst j13; exact (show zq_in 0 by decide)
  by_cases j14 : i = 14
  · subst j14; exact (show zq_in 0 by decide)
  unfold zc_t140
  rw [if_neg j0, if_neg j1, if_neg j2, if_neg j3, if_neg j4, if_neg j5, if_neg j6, if_neg j7, if_neg j8, if_neg j9, if_neg j10, if_neg j11, if_neg j12, if_neg j13, if_neg j14]
  trivial
theorem zc_TI141 (a i : Int) : zc_tk 141 a i (zc_I141 a i) := by
  show zc_t141 a i (zc_I141 a i)
  by_cases j0 : i = 0
  · subst j0; exact (show 0 ≤ (0 : Int) ∧ (0 : Int) ≤ 255 by decide)
  by_cases j1 : i = 1
  · subst j1; exact (show (142 : Int) = 142 from rfl)
  by_cases j2 : i = 2
  · subst j2; exact (show (143 : Int) = 143 from rfl)
  by_cases j3 : i = 3
  · subst j3; exact (show zq_in 0 by decide)
  by_cases j4 : i = 4
  · subst j4; exact (show zq_in 0 by decide)
  by_cases j5 : i = 5
  · subst j5; exact (show (144 : Int) = 144 from rfl)
  by_cases j6 : i = 6
  · subst j6; exact (show 0 ≤ (0 : Int) ∧ (0 : Int) ≤ 3 by decide)
  by_cases j7 : i = 7
  · subst j7; exact (show (145 : Int) = 145 from rfl)
  by_cases j8 : i = 8
  · subst j8; exact (show (146 : Int) = 146 from rfl)
  unfold zc_t141
  rw [if_neg j0, if_neg j1, if_neg j2, if_neg j3, if_neg j4, if_neg j5, if_neg j6, if_neg j7, if_neg j8]
  trivial
theorem zc_TI142 (a i : Int) : zc_tk 142 a i (zc_I142 a i) := by show zq_in 0; decide
theorem zc_TI143 (a i : Int) : zc_tk 143 a i (zc_I143 a i) := by show zq_in 0; decide
theorem zc_TI144 (a i : Int) : zc_tk 144 a i (zc_I144 a i) := by show zq_in 0; decide
theorem zc_TI145 (a i : Int) : zc_tk 145 a i (zc_I145 a i) := by show zq_in 0; decide
theorem zc_TI146 (a i : Int) : zc_tk 146 a i (zc_I146 a i) := by show zq_in 0; decide
theorem zc_TI147 (a i : Int) : zc_tk 147 a i (zc_I147 a i) := by
  show zc_t147 a i (zc_I147 a i)
  by_cases j0 : i = 0
  · subst j0; exact (show 0 ≤ (0 : Int) ∧ (0 : Int) ≤ 255 by decide)
  by_cases j1 : i = 1
  · subst j1; exact (show (148 : Int) = 148 from rfl)
  by_cases j2 : i = 2
  · subst j2; exact (show (149 : Int) = 149 from rfl)
  by_cases j3 : i = 3
  · subst j3; exact (show zq_in 0 by decide)
  by_cases j4 : i = 4
  · subst j4; exact (show zq_in 0 by decide)
  by_cases j5 : i = 5
  · subst j5; exact (show (150 : Int) = 150 from rfl)
  by_cases j6 : i = 6
  · subst j6; exact (show 0 ≤ (0 : Int) ∧ (0 : Int) ≤ 3 by decide)
  by_cases j7 : i = 7
  · subst j7; exact (show (151 : Int) = 151 from rfl)
  by_cases j8 : i = 8
  · subst j8; exact (show (152 : Int) = 152 from rfl)
  unfold zc_t147
  rw [if_neg j0, if_neg j1, if_neg j2, if_neg j3, if_neg j4, if_neg j5, if_neg j6, if_neg j7, if_neg j8]
  trivial
theorem zc_TI148 (a i : Int) : zc_tk 148 a i (zc_I148 a i) := by show zq_in 0; decide
theorem zc_TI149 (a i : Int) : zc_tk 149 a i (zc_I149 a i) := by show zq_in 0; decide
theorem zc_TI150 (a i : Int) : zc_tk 150 a i (zc_I150 a i) := by show zq_in 0; decide
theorem zc_TI151 (a i : Int) : zc_tk 151 a i (zc_I151 a i) := by show zq_in 0; decide
theorem zc_TI152 (a i : Int) : zc_tk 152 a i (zc_I152 a i) := by show zq_in 0; decide
theorem zc_TI153 (a i : Int) : zc_tk 153 a i (zc_I153 a i) := fun h0 h1 => by
  show zc_I153 a i = 154 + i
  unfold zc_I153
  rw [if_pos ⟨h0, h1⟩]
theorem zc_TI154 (a i : Int) : zc_tk 154 a i (zc_I154 a i) := ⟨fun _ => ⟨by show (0 : Int) ≤ 0; decide, by show (0 : Int) ≤ 3; decide⟩, by show zq_in 0; decide⟩
theorem zc_TI254 (a i : Int) : zc_tk 254 a i (zc_I254 a i) := by show zq_in 0; decide
theorem zc_TI255 (a i : Int) : zc_tk 255 a i (zc_I255 a i) := by
  show zc_t255 a i (zc_I255 a i)
  by_cases j0 : i = 0
  · subst j0; exact (show (3 : Int) = 3 from rfl)
  by_cases j1 : i = 1
  · subst j1; exact (show zc_kd 256 = 256 from rfl)
  by_cases j2 : i = 2
  · subst j2; exact (show zc_kd 264 = 256 from rfl)
  by_cases j3 : i = 3
  · subst j3; exact (show 0 ≤ (0 : Int) ∧ (0 : Int) ≤ 1 by decide)
  by_cases j4 : i = 4
  · subst j4; exact (show 0 ≤ (0 : Int) ∧ (0 : Int) ≤ 8 by decide)
  by_cases j5 : i = 5
  · subst j5; exact (show (272 : Int) = 272 from rfl)
  by_cases j6 : i = 6
  · subst j6; exact (show (273 : Int) = 273 from rfl)
  by_cases j7 : i = 7
  · subst j7; exact (show (274 : Int) = 274 from rfl)
  by_cases j8 : i = 8
  · subst j8; exact (show (275 : Int) = 275 from rfl)
  by_cases j9 : i = 9
  · subst j9; exact (show 0 ≤ (0 : Int) ∧ (0 : Int) ≤ 64 by decide)
  unfold zc_t255
  rw [if_neg j0, if_neg j1, if_neg j2, if_neg j3, if_neg j4, if_neg j5, if_neg j6, if_neg j7, if_neg j8, if_neg j9]
  trivial
theorem zc_TI256 (a i : Int) : zc_tk 256 a i (zc_I256 a i) := by
  show zc_t256 a i (zc_I256 a i)
  by_cases j0 : i = 0
  · subst j0; exact (show a + 1 = a + 1 from rfl)
  by_cases j1 : i = 1
  · subst j1; exact (show a + 2 = a + 2 from rfl)
  by_cases j2 : i = 2
  · subst j2; exact (show a + 3 = a + 3 from rfl)
  by_cases j3 : i = 3
  · subst j3; exact (show a + 4 = a + 4 from rfl)
  by_cases j4 : i = 4
  · subst j4; exact (show a + 5 = a + 5 from rfl)
  by_cases j5 : i = 5
  · subst j5; exact (show 0 ≤ (0 : Int) ∧ (0 : Int) ≤ 39 by decide)
  by_cases j6 : i = 6
  · subst j6; exact (show 0 ≤ (0 : Int) ∧ (0 : Int) ≤ 20 by decide)
  by_cases j7 : i = 7
  · subst j7; exact (show a + 6 = a + 6 from rfl)
  by_cases j8 : i = 8
  · subst j8; exact (show a + 7 = a + 7 from rfl)
  by_cases j9 : i = 9
  · subst j9; exact (show 0 ≤ (0 : Int) ∧ (0 : Int) ≤ 6 by decide)
  unfold zc_t256
  rw [if_neg j0, if_neg j1, if_neg j2, if_neg j3, if_neg j4, if_neg j5, if_neg j6, if_neg j7, if_neg j8, if_neg j9]
  trivial
theorem zc_TI257 (a i : Int) : zc_tk 257 a i (zc_I257 a i) := by show zq_in 0; decide
theorem zc_TI258 (a i : Int) : zc_tk 258 a i (zc_I258 a i) := by show zq_in 0; decide
theorem zc_TI259 (a i : Int) : zc_tk 259 a i (zc_I259 a i) := by show 0 ≤ (0 : Int) ∧ (0 : Int) ≤ 38; decide
theorem zc_TI260 (a i : Int) : zc_tk 260 a i (zc_I260 a i) := by show 0 ≤ (0 : Int) ∧ (0 : Int) ≤ 38; decide
theorem zc_TI261 (a i : Int) : zc_tk 261 a i (zc_I261 a i) := by show zq_in 0; decide
theorem zc_TI262 (a i : Int) : zc_tk 262 a i (zc_I262 a i) := by show 0 ≤ (0 : Int) ∧ (0 : Int) ≤ 38; decide
theorem zc_TI263 (a i : Int) : zc_tk 263 a i (zc_I263 a i) := by show zq_in 0; decide
theorem zc_TI272 (a i : Int) : zc_tk 272 a i (zc_I272 a i) := by show zq_in 0; decide
theorem zc_TI273 (a i : Int) : zc_tk 273 a i (zc_I273 a i) := by show zq_in 0; decide
theorem zc_TI274 (a i : Int) : zc_tk 274 a i (zc_I274 a i) := by show zq_in 0; decide
theorem zc_TI275 (a i : Int) : zc_tk 275 a i (zc_I275 a i) := by show zq_in 0; decide
theorem zc_TI276 (a i : Int) : zc_tk 276 a i (zc_I276 a i) := by
  show zc_t276 a i (zc_I276 a i)
  by_cases j0 : i = 0
  · subst j0; exact (show (277 : Int) = 277 from rfl)
  by_cases j1 : i = 1
  · subst j1; exact (show (278 : Int) = 278 from rfl)
  by_cases j2 : i = 2
  · subst j2; exact (show (279 : Int) = 279 from rfl)
  unfold zc_t276
  rw [if_neg j0, if_neg j1, if_neg j2]
  trivial
theorem zc_TI277 (a i : Int) : zc_tk 277 a i (zc_I277 a i) := by
  show -1 ≤ zc_I277 a i ∧ zc_I277 a i ≤ 2
  unfold zc_I277
  split <;> decide
theorem zc_TI278 (a i : Int) : zc_tk 278 a i (zc_I278 a i) := by show 0 ≤ (0 : Int) ∧ (0 : Int) ≤ 30; decide
theorem zc_TI279 (a i : Int) : zc_tk 279 a i (zc_I279 a i) := fun h0 h1 => by
  show zc_I279 a i = 280 + i
  unfold zc_I279
  rw [if_pos ⟨h0, h1⟩]
theorem zc_TI280 (a i : Int) : zc_tk 280 a i (zc_I280 a i) := by show zq_in 0; decide
theorem zc_kd_out {a : Int} (h : ¬ (0 ≤ a ∧ a ≤ 283)) : zc_kd a = 999 := by
  unfold zc_kd
  repeat' split
  all_goals omega
theorem zc_TI (a i : Int) : zc_tk (zc_kd a) a i (zc_I a i) := by
  by_cases h0 : zc_kd a = 0
  · rw [zc_Ie0 h0, h0]; exact zc_TI0 a i
  by_cases h1 : zc_kd a = 1
  · rw [zc_Ie1 h1, h1]; exact zc_TI1 a i
  by_cases h2 : zc_kd a = 2
  · rw [zc_Ie2 h2, h2]; exact zc_TI2 a i
  by_cases h3 : zc_kd a = 3
  · rw [zc_Ie3 h3, h3]; exact zc_TI3 a i
  by_cases h4 : zc_kd a = 4
  · rw [zc_Ie4 h4, h4]; exact zc_TI4 a i
  by_cases h5 : zc_kd a = 5
  · rw [zc_Ie5 h5, h5]; exact zc_TI5 a i
  by_cases h6 : zc_kd a = 6
  · rw [zc_Ie6 h6, h6]; exact zc_TI6 a i
  by_cases h7 : zc_kd a = 7
  · rw [zc_Ie7 h7, h7]; exact zc_TI7 a i
  by_cases h8 : zc_kd a = 8
  · rw [zc_Ie8 h8, h8]; exact zc_TI8 a i
  by_cases h9 : zc_kd a = 9
  · rw [zc_Ie9 h9, h9]; exact zc_TI9 a i
  by_cases h10 : zc_kd a = 10
  · rw [zc_Ie10 h10, h10]; exact zc_TI10 a i
  by_cases h11 : zc_kd a = 11
  · rw [zc_Ie11 h11, h11]; exact zc_TI11 a i
  by_cases h132 : zc_kd a = 132
  · rw [zc_Ie132 h132, h132]; exact zc_TI132 a i
  by_cases h133 : zc_kd a = 133
  · rw [zc_Ie133 h133, h133]; exact zc_TI133 a i
  by_cases h134 : zc_kd a = 134
  · rw [zc_Ie134 h134, h134]; exact zc_TI134 a i
  by_cases h135 : zc_kd a = 135
  · rw [zc_Ie135 h135, h135]; exact zc_TI135 a i
  by_cases h136 : zc_kd a = 136
  · rw [zc_Ie136 h136, h136]; exact zc_TI136 a i
  by_cases h137 : zc_kd a = 137
  · rw [zc_Ie137 h137, h137]; exact zc_TI137 a i
  by_cases h138 : zc_kd a = 138
  · rw [zc_Ie138 h138, h138]; exact zc_TI138 a i
  by_cases h139 : zc_kd a = 139
  · rw [zc_Ie139 h139, h139]; exact zc_TI139 a i
  by_cases h140 : zc_kd a = 140
  · rw [zc_Ie140 h140, h140]; exact zc_TI140 a i
  by_cases h141 : zc_kd a = 141
  · rw [zc_Ie141 h141, h141]; exact zc_TI141 a i
  by_cases h142 : zc_kd a = 142
  · rw [zc_Ie142 h142, h142]; exact zc_TI142 a i
  by_cases h143 : zc_kd a = 143
  · rw [zc_Ie143 h143, h143]; exact zc_TI143 a i
  by_cases h144 : zc_kd a = 144
  · rw [zc_Ie144 h144, h144]; exact zc_TI144 a i
  by_cases h145 : zc_kd a = 145
  · rw [zc_Ie145 h145, h145]; exact zc_TI145 a i
  by_cases h146 : zc_kd a = 146
  · rw [zc_Ie146 h146, h146]; exact zc_TI146 a i
  by_cases h147 : zc_kd a = 147
  · rw [zc_Ie147 h147, h147]; exact zc_TI147 a i
  by_cases h148 : zc_kd a = 148
  · rw [zc_Ie148 h148, h148]; exact zc_TI148 a i
  by_cases h149 : zc_kd a = 149
  · rw [zc_Ie149 h149, h149]; exact zc_TI149 a i
  by_cases h150 : zc_kd a = 150
  · rw [zc_Ie150 h150, h150]; exact zc_TI150 a i
  by_cases h151 : zc_kd a = 151
  · rw [zc_Ie151 h151, h151]; exact zc_TI151 a i
  by_cases h152 : zc_kd a = 152
  · rw [zc_Ie152 h152, h152]; exact zc_TI152 a i
  by_cases h153 : zc_kd a = 153
  · rw [zc_Ie153 h153, h153]; exact zc_TI153 a i
  by_cases h154 : zc_kd a = 154
  · rw [zc_Ie154 h154, h154]; exact zc_TI154 a i
  by_cases h254 : zc_kd a = 254
  · rw [zc_Ie254 h254, h254]; exact zc_TI254 a i
  by_cases h255 : zc_kd a = 255
  · rw [zc_Ie255 h255, h255]; exact zc_TI255 a i
  by_cases h256 : zc_kd a = 256
  · rw [zc_Ie256 h256, h256]; exact zc_TI256 a i
  by_cases h257 : zc_kd a = 257
  · rw [zc_Ie257 h257, h257]; exact zc_TI257 a i
  by_cases h258 : zc_kd a = 258
  · rw [zc_Ie258 h258, h258]; exact zc_TI258 a i
  by_cases h259 : zc_kd a = 259
  · rw [zc_Ie259 h259, h259]; exact zc_TI259 a i
  by_cases h260 : zc_kd a = 260
  · rw [zc_Ie260 h260, h260]; exact zc_TI260 a i
  by_cases h261 : zc_kd a = 261
  · rw [zc_Ie261 h261, h261]; exact zc_TI261 a i
  by_cases h262 : zc_kd a = 262
  · rw [zc_Ie262 h262, h262]; exact zc_TI262 a i
  by_cases h263 : zc_kd a = 263
  · rw [zc_Ie263 h263, h263]; exact zc_TI263 a i
  by_cases h272 : zc_kd a = 272
  · rw [zc_Ie272 h272, h272]; exact zc_TI272 a i
  by_cases h273 : zc_kd a = 273
  · rw [zc_Ie273 h273, h273]; exact zc_TI273 a i
  by_cases h274 : zc_kd a = 274
  · rw [zc_Ie274 h274, h274]; exact zc_TI274 a i
  by_cases h275 : zc_kd a = 275
  · rw [zc_Ie275 h275, h275]; exact zc_TI275 a i
  by_cases h276 : zc_kd a = 276
  · rw [zc_Ie276 h276, h276]; exact zc_TI276 a i
  by_cases h277 : zc_kd a = 277
  · rw [zc_Ie277 h277, h277]; exact zc_TI277 a i
  by_cases h278 : zc_kd a = 278
  · rw [zc_Ie278 h278, h278]; exact zc_TI278 a i
  by_cases h279 : zc_kd a = 279
  · rw [zc_Ie279 h279, h279]; exact zc_TI279 a i
  by_cases h280 : zc_kd a = 280
  · rw [zc_Ie280 h280, h280]; exact zc_TI280 a i
  unfold zc_tk
  rw [if_neg h0, if_neg h1, if_neg h2, if_neg h3, if_neg h4, if_neg h5, if_neg h6, if_neg h7, if_neg h8, if_neg h9, if_neg h10, if_neg h11, if_neg h132, if_neg h133, if_neg h134, if_neg h135, if_neg h136, if_neg h137, if_neg h138, if_neg h139, if_neg h140, if_neg h141, if_neg h142, if_neg h143, if_neg h144, if_neg h145, if_neg h146, if_neg h147, if_neg h148, if_neg h149, if_neg h150, if_neg h151, if_neg h152, if_neg h153, if_neg h154, if_neg h254, if_neg h255, if_neg h256, if_neg h257, if_neg h258, if_neg h259, if_neg h260, if_neg h261, if_neg h262, if_neg h263, if_neg h272, if_neg h273, if_neg h274, if_neg h275, if_neg h276, if_neg h277, if_neg h278, if_neg h279, if_neg h280]
  trivial
theorem zc_T_I {τ : zq_S} (H : ∀ x i, 0 ≤ x → x ≤ 283 → τ x i = zc_I x i) : zc_T τ ∧ zc_U τ := by
  refine ⟨fun a i => ?_, ?_, fun h => ?_⟩
  · by_cases hc : 0 ≤ a ∧ a ≤ 283
    · rw [H a i hc.1 hc.2]
      exact zc_TI a i
    · rw [zc_kd_out hc]
      show zc_tk 999 a i (τ a i)
      unfold zc_tk
      repeat (rw [if_neg (by decide)])
      trivial
  · rw [H 255 1 (by decide) (by decide), H 255 2 (by decide) (by decide), zc_Ie255 zc_s255, zc_Ie255 zc_s255]
    decide
  · rw [H 255 3 (by decide) (by decide), zc_Ie255 zc_s255] at h
    exact absurd h (by decide)
