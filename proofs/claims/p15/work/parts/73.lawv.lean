/-! ===== the law's rows ===== -/
def zl_Hp (s : State) (D : va_G) (cA : Nat → ClassId) (H : Heap) (locs : List Loc) (σ ρ : zq_S) : Prop := va_P D zq_cl (zq_ws zc_w cA s.heap.size 284 σ) H ∧ va_P D zq_cl (zq_ws zx_w cA (s.heap.size + 284) 41 ρ) H ∧ va_S (fun q => s.heap.size ≤ q) s.heap H locs ∧ H.size = s.heap.size + 325
def zl_ls (b1 b : Nat) (i : Int) : List (Nat × Value) := [(3, .int (Int32.ofInt i)), (2, .ref (b1 + 284)), (1, .ref b1), (0, .ref b)]
def zl_V (p : Program) (l : Launch) (e : Env) (s : State) (m : MethodId) (below : List Frame) (meth : Method) (c : Code) (D : va_G) (cA : Nat → ClassId) (b : Nat) : Nat → Int → List Value → zq_S → zq_S → Prop := fun pc i st σ ρ =>
  ∀ (H : Heap) (locs : List Loc) (lsA : Array Slot), zl_Hp s D cA H locs σ ρ → lv_has lsA 4 (zl_ls s.heap.size b i) → W p l e room_1 s m #[Value.ref b] below meth c H locs 325 zl_SL (lw_Z below #[Value.ref b] s) (F0 m pc lsA st)
def zl_R (L : Nat) (xs : Nat → Int32) (b1 b : Nat) (V : Nat → Int → List Value → zq_S → zq_S → Prop) : Prop := ∃ (p : Program) (l : Launch) (e : Env) (s : State) (m : MethodId) (below : List Frame) (meth : Method) (c : Code) (D : va_G) (cA : Nat → ClassId), zl_E p s m meth c b L xs D cA ∧ s.heap.size = b1 ∧ V = zl_V p l e s m below meth c D cA b
/-- what holds between two calls -/
def zl_I (σ ρ : zq_S) : Prop := zc_T σ ∧ zc_U σ ∧ zx_T ρ ∧ zx_M ρ ∧ zx_O ρ ∧ zx_K ρ ∧ zx_U ρ ∧ zx_TK ρ ∧ zx_W ρ ∧ zu_tie σ ρ ∧ zu_TN σ ρ
/-- a script's int, as a whole number -/
def zl_x (xs : Nat → Int32) (j : Int) : Int := (xs j.toNat).toInt
theorem zl_xin (xs : Nat → Int32) (j : Int) : zq_in (zl_x xs j) := by
  have h1 := Int32.le_toInt (xs j.toNat)
  have h2 := Int32.toInt_lt (xs j.toNat)
  unfold zl_x
  exact ⟨h1, by omega⟩
section ZLRows
variable {L : Nat} {xs : Nat → Int32} {b1 b : Nat} {V : Nat → Int → List Value → zq_S → zq_S → Prop} {pc : Nat} {i : Int} {st : List Value} {σ ρ : zq_S}
theorem zl_a0 (hV : zl_R L xs b1 b V) (d : decode code pc = .ok (.aload_n 0, 1)) (k : V (pc + 1) i (.ref b :: st) σ ρ) : V pc i st σ ρ := by
  obtain ⟨p, l, e, s, m, below, meth, c, D, cA, E, hb1, rfl⟩ := hV
  intro H locs lsA hH hl
  exact lv_aload_n E.1 E.2.1 d rfl (lv_at hl 3 rfl) (k H locs lsA hH hl)
theorem zl_a1 (hV : zl_R L xs b1 b V) (d : decode code pc = .ok (.aload_n 1, 1)) (k : V (pc + 1) i (.ref b1 :: st) σ ρ) : V pc i st σ ρ := by
  obtain ⟨p, l, e, s, m, below, meth, c, D, cA, E, rfl, rfl⟩ := hV
  intro H locs lsA hH hl
  exact lv_aload_n E.1 E.2.1 d rfl (lv_at hl 2 rfl) (k H locs lsA hH hl)
theorem zl_a2 (hV : zl_R L xs b1 b V) (d : decode code pc = .ok (.aload_n 2, 1)) (k : V (pc + 1) i (.ref (b1 + 284) :: st) σ ρ) : V pc i st σ ρ := by
  obtain ⟨p, l, e, s, m, below, meth, c, D, cA, E, rfl, rfl⟩ := hV
  intro H locs lsA hH hl
  exact lv_aload_n E.1 E.2.1 d rfl (lv_at hl 1 rfl) (k H locs lsA hH hl)
theorem zl_i3 (hV : zl_R L xs b1 b V) (d : decode code pc = .ok (.iload_n 3, 1)) (k : V (pc + 1) i (.int (Int32.ofInt i) :: st) σ ρ) : V pc i st σ ρ := by
  obtain ⟨p, l, e, s, m, below, meth, c, D, cA, E, hb1, rfl⟩ := hV
  intro H locs lsA hH hl
  exact lv_iload_n E.1 E.2.1 d rfl (lv_at hl 0 rfl) (k H locs lsA hH hl)
theorem zl_ld (hV : zl_R L xs b1 b V) {j : Int} (hj : 0 ≤ j ∧ j < L) (d : decode code pc = .ok (.iaload, 1)) (k : V (pc + 1) i (.int (Int32.ofInt (zl_x xs j)) :: st) σ ρ) : V pc i (.int (Int32.ofInt j) :: .ref b :: st) σ ρ := by
  obtain ⟨p, l, e, s, m, below, meth, c, D, cA, E, hb1, rfl⟩ := hV
  intro H locs lsA hH hl
  obtain ⟨hx, hb, hr, hml, hown, hts, hK, hXw, hX, hbl, hlk, hL⟩ := E
  refine va_sld hx hb hX hbl (A := fun q => s.heap.size ≤ q) (Nat.not_le.mpr hbl) hH.2.2.1 (zq_vin hj.1 hj.2 (by omega)) d ?_
  have e1 : Int32.ofInt (zl_x xs j) = xs (Int32.ofInt j).toNatClampNeg := by
    rw [zq_clamp ⟨by omega, by omega⟩]
    exact Int32.ofInt_toInt _
  rw [← e1]
  exact k H locs lsA hH hl
theorem zl_arg (hV : zl_R L xs b1 b V) {k0 : Int} (hk : 0 ≤ k0 ∧ k0 ≤ 5) (hi : 0 ≤ i ∧ i + 6 ≤ L) (d0 : decode code pc = .ok (.aload_n 0, 1)) (d1 : decode code (pc + 1) = .ok (.iload_n 3, 1)) (d2 : decode code (pc + 1 + 1) = .ok (.iconst k0, 1)) (d3 : decode code (pc + 1 + 1 + 1) = .ok (.iadd, 1)) (d4 : decode code (pc + 1 + 1 + 1 + 1) = .ok (.iaload, 1)) (k : V (pc + 1 + 1 + 1 + 1 + 1) i (.int (Int32.ofInt (zl_x xs (i + k0))) :: st) σ ρ) : V pc i st σ ρ := by
  refine zl_a0 hV d0 (zl_i3 hV d1 ?_)
  have k1 := zl_ld hV (j := i + k0) (by omega) d4 k
  obtain ⟨p, l, e, s, m, below, meth, c, D, cA, E, hb1, rfl⟩ := hV
  intro H locs lsA hH hl
  refine lv_iconst E.1 E.2.1 d2 rfl ?_
  refine lv_iadd E.1 E.2.1 d3 ?_
  rw [zq_ofI_add]
  exact k1 H locs lsA hH hl
theorem zl_pop (hV : zl_R L xs b1 b V) {v : Int32} (d : decode code pc = .ok (.pop, 1)) (k : V (pc + 1) i st σ ρ) : V pc i (.int v :: st) σ ρ := by
  obtain ⟨p, l, e, s, m, below, meth, c, D, cA, E, hb1, rfl⟩ := hV
  intro H locs lsA hH hl
  exact lv_pop E.1 E.2.1 d rfl (k H locs lsA hH hl)
theorem zl_goto (hV : zl_R L xs b1 b V) (tgt : Nat) {off : Int} (d : decode code pc = .ok (.goto off, 3)) (ht : (pc : Int) + off = (tgt : Int)) (k : V tgt i st σ ρ) : V pc i st σ ρ := by
  obtain ⟨p, l, e, s, m, below, meth, c, D, cA, E, hb1, rfl⟩ := hV
  intro H locs lsA hH hl
  exact lv_goto E.1 E.2.1 d ht (k H locs lsA hH hl)
theorem zl_long (hV : zl_R L xs b1 b V) {x y : Int32} (st0 : List Value) (d0 : decode code pc = .ok (.i2l, 1)) (k : V (pc + 1) i (.long x.toInt64 :: st0) σ ρ) : V pc i (.int x :: st0) σ ρ := by
  obtain ⟨p, l, e, s, m, below, meth, c, D, cA, E, hb1, rfl⟩ := hV
  intro H locs lsA hH hl
  exact lv_i2l E.1 E.2.1 d0 rfl (k H locs lsA hH hl)
theorem zl_shl (hV : zl_R L xs b1 b V) {x : Int64} (d0 : decode code pc = .ok (.bipush 32, 2)) (d1 : decode code (pc + 2) = .ok (.lshl, 1)) (k : V (pc + 2 + 1) i (.long (x <<< (((Int8.ofInt 32).toInt32).toInt64 &&& 63)) :: st) σ ρ) : V pc i (.long x :: st) σ ρ := by
  obtain ⟨p, l, e, s, m, below, meth, c, D, cA, E, hb1, rfl⟩ := hV
  intro H locs lsA hH hl
  exact lv_bipush E.1 E.2.1 d0 rfl (lv_lshl E.1 E.2.1 d1 rfl (k H locs lsA hH hl))
theorem zl_or (hV : zl_R L xs b1 b V) {x y v : Int64} {idx : Nat} (hc : Cond.constantLong "OrdersToldLaw" idx v ∈ zq_tb) (d0 : decode code pc = .ok (.ldc2_w idx, 3)) (d1 : decode code (pc + 3) = .ok (.land, 1)) (d2 : decode code (pc + 3 + 1) = .ok (.lor, 1)) (k : V (pc + 3 + 1 + 1) i (.long (Int64.ofInt (x ||| (y &&& v)).toInt) :: st) σ ρ) : V pc i (.long y :: .long x :: st) σ ρ := by
  obtain ⟨p, l, e, s, m, below, meth, c, D, cA, E, hb1, rfl⟩ := hV
  intro H locs lsA hH hl
  rw [Int64.ofInt_toInt] at k
  exact lv_ldc2 E.1 E.2.1 E.2.2.2.2.1 (E.2.2.2.2.2.1 _ hc) d0 (lv_land E.1 E.2.1 d1 (lv_lor E.1 E.2.1 d2 (k H locs lsA hH hl)))
/-- a call of the class -/
theorem zl_X (hV : zl_R L xs b1 b V) (As : List zq_Z) {y : MethodName} {cy : ByteArray} {ny fry loy idx : Nat} {rty : Option FieldType} {Po : Option zq_Z → zq_S → Prop} {stk : List Value} (hC : zq_C zc_w y cy ny rty fry loy 284 284 (ZR 0 :: As) σ Po) (hM : zq_MV "OrdersToldLaw" idx 11 y cy ny rty As.length) (d : decode code pc = .ok (.invokevirtual idx, 3)) (hroom : fry + 1 ≤ 10 ∧ 8 + (ny + 11) + loy ≤ 368) (hst : st.length ≤ 4) (hs : stk = (As.map (zq_val b1)).reverse ++ .ref b1 :: st)
    (k : ∀ r σ', Po r σ' → V (pc + 3) i ((r.map (zq_val b1)).toList ++ st) σ' ρ) : V pc i stk σ ρ := by
  obtain ⟨p, l, e, s, m, below, meth, c, D, cA, E, rfl, rfl⟩ := hV
  intro H locs lsA ⟨hP1, hP2, hS, hz⟩ hl
  subst hs
  refine zl_callV E (w := zc_w) (bb := s.heap.size) (n := 284) (ws2 := zq_ws zx_w cA (s.heap.size + 284) 41 ρ) As hC hM d hroom hst rfl (by decide) (Nat.le_refl _) (by omega) (fun k9 q hq => ?_) hP1 hP2 hS hl.1 (by decide) zl_SL_le ?_
  · obtain ⟨h1, rfl⟩ := zq_at_inv hq
    exact ⟨by show s.heap.size + 284 + k9 < H.size; omega, Or.inr (by show s.heap.size + 284 ≤ s.heap.size + 284 + k9; omega)⟩
  · intro r σ' H1 locs1 h3 h4 h5 h6 h7
    exact k r σ' h3 H1 locs1 lsA ⟨h4, h5, h6, by omega⟩ hl
/-- a call of the reference -/
theorem zl_M (hV : zl_R L xs b1 b V) (As : List zq_Z) {y : MethodName} {cy : ByteArray} {ny fry loy idx : Nat} {rty : Option FieldType} {Po : Option zq_Z → zq_S → Prop} {stk : List Value} (hC : zq_C zx_w y cy ny rty fry loy 41 41 (ZR 0 :: As) ρ Po) (hM : zq_MV "OrdersToldLaw" idx 12 y cy ny rty As.length) (d : decode code pc = .ok (.invokevirtual idx, 3)) (hroom : fry + 1 ≤ 10 ∧ 8 + (ny + 11) + loy ≤ 368) (hst : st.length ≤ 4) (hs : stk = (As.map (zq_val (b1 + 284))).reverse ++ .ref (b1 + 284) :: st)
    (k : ∀ r ρ', Po r ρ' → V (pc + 3) i ((r.map (zq_val (b1 + 284))).toList ++ st) σ ρ') : V pc i stk σ ρ := by
  obtain ⟨p, l, e, s, m, below, meth, c, D, cA, E, rfl, rfl⟩ := hV
  intro H locs lsA ⟨hP1, hP2, hS, hz⟩ hl
  subst hs
  refine zl_callV E (w := zx_w) (bb := s.heap.size + 284) (n := 41) (ws2 := zq_ws zc_w cA s.heap.size 284 σ) As hC hM d hroom hst rfl (by decide) (by omega) (by omega) (fun k9 q hq => ?_) hP2 hP1 hS hl.1 (by decide) zl_SL_le ?_
  · obtain ⟨h1, rfl⟩ := zq_at_inv hq
    exact ⟨by show s.heap.size + k9 < H.size; omega, Or.inl (by show s.heap.size + k9 < s.heap.size + 284; omega)⟩
  · intro r σ' H1 locs1 h3 h4 h5 h6 h7
    exact k r σ' h3 H1 locs1 lsA ⟨h5, h4, h6, by omega⟩ hl
end ZLRows
