/-! ===== the tables' words: those that a call hands on as they are, and the others ===== -/
def zq_tb : List Cond := lw_tbl.filter goodWord
theorem zq_tbI {q : Cond} (h : q ∈ lw_tbl) (hg : goodWord q = true) : q ∈ zq_tb := List.mem_filter.mpr ⟨h, hg⟩
def zq_Xw : List Cond := [.methodLinkNest RX11 9 yX8_init RX11, .methodLinkNest RX9 11 yX3_init RX11, .methodLinkNest RX2 3 yX0_init RX11, .methodLinkNest RX6 15 yX10_init RX11, .methodLinkNest RX10 5 yX0_init RX11, .methodLinkNest RX1 11 yX7_init RX11, .declares ⟨RX0, "wordOf", "(I)I"⟩, .declares ⟨RX0, "become", "(II)V"⟩, .arrayOver (.object RX3), .arrayOver (.array .int)]
def zq_X (U : State) : Prop := ∀ q ∈ zq_Xw, q.before #[] U = true
theorem zq_X_of {A : Array Value} {U : State} (h : ∀ q ∈ lw_tbl, q.before A U = true) : zq_X U := by
  have hin : ∀ q ∈ zq_Xw, q ∈ lw_tbl := by decide +kernel
  intro q hq
  have h1 := h q (hin q hq)
  simp only [zq_Xw, List.mem_cons, List.not_mem_nil, or_false] at hq
  rcases hq with rfl | rfl | rfl | rfl | rfl | rfl | rfl | rfl | rfl | rfl <;> exact h1
theorem zq_AOA {u U : State} (hvm : u.vm.Alike U.vm) (h : (Cond.arrayOver (.array .int)).before #[] u = true) : (Cond.arrayOver (.array .int)).before #[] U = true := by
  simp only [Cond.before, Cond.holds, Cond.value, beq_iff_eq] at h ⊢
  obtain ⟨comp, hc, h⟩ := Option.bind_eq_some_iff.mp h
  obtain ⟨c, hf, h⟩ := Option.bind_eq_some_iff.mp h
  obtain ⟨k, hk, h⟩ := Option.map_eq_some_iff.mp h
  obtain ⟨k', hk', he⟩ := hvm.2.2 _ _ hk
  have hb : U.vm.bare = u.vm.bare := by first | exact hvm.bare_eq | exact hvm.bare_eq.symm
  have hi := (va_idx_bare U.vm comp).symm.trans ((congrArg (fun v : Vm => v.classes.findIdx? fun (x : Class) => match x.kind with | .array component _ => component == comp | _ => false) hb).trans (va_idx_bare u.vm comp))
  refine Option.bind_eq_some_iff.mpr ⟨comp, (hvm.findClass _ _).trans hc, Option.bind_eq_some_iff.mpr ⟨c, hi.trans hf, Option.map_eq_some_iff.mpr ⟨k', hk', ?_⟩⟩⟩
  rw [he, hvm.findClass]
  exact h
theorem zq_X_same {u U : State} (h : u.vm = U.vm) (hX : zq_X u) : zq_X U := by
  intro q hq
  have h1 := hX q hq
  simp only [zq_Xw, List.mem_cons, List.not_mem_nil, or_false] at hq
  rcases hq with rfl | rfl | rfl | rfl | rfl | rfl | rfl | rfl | rfl | rfl
  · exact va_Nw.same rfl h h1
  · exact va_Nw.same rfl h h1
  · exact va_Nw.same rfl h h1
  · exact va_Nw.same rfl h h1
  · exact va_Nw.same rfl h h1
  · exact va_Nw.same rfl h h1
  · exact va_Nw.same rfl h h1
  · exact va_Nw.same rfl h h1
  · exact va_AO.moved (h ▸ Vm.Alike.refl _) h1
  · exact zq_AOA (h ▸ Vm.Alike.refl _) h1
theorem zq_X_warm {s U : State} (hW : s.WarmedH U.vm) (hX : zq_X s) : zq_X U := by
  intro q hq
  have h1 := hX q hq
  simp only [zq_Xw, List.mem_cons, List.not_mem_nil, or_false] at hq
  rcases hq with rfl | rfl | rfl | rfl | rfl | rfl | rfl | rfl | rfl | rfl
  · exact va_Nw.warmM hW h1
  · exact va_Nw.warmM hW h1
  · exact va_Nw.warmM hW h1
  · exact va_Nw.warmM hW h1
  · exact va_Nw.warmM hW h1
  · exact va_Nw.warmM hW h1
  · exact va_Nw.warmD hW h1
  · exact va_Nw.warmD hW h1
  · exact va_AO.moved hW.alike h1
  · exact zq_AOA hW.alike h1
/-! ===== the store: a world's cells as one function of whole numbers ===== -/
abbrev zq_Z : Type := Int ⊕ (Int ⊕ Option Int)
abbrev zq_S : Type := Int → Int → Int
abbrev ZI (x : Int) : zq_Z := Sum.inl x
abbrev ZL (x : Int) : zq_Z := Sum.inr (Sum.inl x)
abbrev ZR (a : Int) : zq_Z := Sum.inr (Sum.inr (some a))
abbrev ZN : zq_Z := Sum.inr (Sum.inr none)
/-- in the range of an int, of a long -/
abbrev zq_in (x : Int) : Prop := -2147483648 ≤ x ∧ x ≤ 2147483647
abbrev zq_inL (x : Int) : Prop := -9223372036854775808 ≤ x ∧ x ≤ 9223372036854775807
def zq_val (b : Nat) : zq_Z → Value
  | Sum.inl x => .int (Int32.ofInt x)
  | Sum.inr (Sum.inl x) => .long (Int64.ofInt x)
  | Sum.inr (Sum.inr (some a)) => .ref (b + a.toNat)
  | Sum.inr (Sum.inr none) => .null
/-- what a cell is: an array (0: of ints, 1: of Orders, 2: of int arrays) of a length, or an object of a class by its number -/
abbrev zq_KI : Type := (Nat × Nat) ⊕ Nat
abbrev zq_W : Type := (Int → Nat) × (Nat → zq_KI)
/-- a class's fields: 0 int, 1 boolean, 2 reference -/
def zq_code : FieldType → Nat
  | .int => 0
  | .boolean => 1
  | .object _ => 2
  | .array _ => 2
  | _ => 3
def zq_ty (ci : Nat) : Nat → FieldType := match ci with
  | 1 => tyX1
  | 2 => tyX2
  | 3 => tyX3
  | 4 => tyX4
  | 5 => tyX5
  | 6 => tyX6
  | 7 => tyX7
  | 8 => tyX8
  | 9 => tyX9
  | 10 => tyX10
  | 11 => tyX11
  | 12 => tyX12
  | _ => tyX0
def zq_nf (ci : Nat) : Nat := match zq_cl[ci]? with
  | some q => q.2.2
  | none => 0
def zq_tc (ci fi : Nat) : Nat := zq_code (zq_ty ci fi)
def zq_fv (b t : Nat) (v : Int) : Value := if t ≤ 1 then .int (Int32.ofInt v) else if v < 0 then .null else .ref (b + v.toNat)
def zq_rf (b : Nat) (v : Int) : Option Nat := if v < 0 then none else some (b + v.toNat)
def zq_ent (cA : Nat → ClassId) (b : Nat) (i : zq_KI) (f : Int → Int) : va_E := match i with
  | .inl (0, len) => .inl (cA 0, len, .inl (fun j => Int32.ofInt (f j)))
  | .inl (t + 1, len) => .inl (cA (t + 1), len, .inr (.inr (.inr (.inr (fun j => zq_rf b (f j))))))
  | .inr ci => .inr (ci, (List.range (zq_nf ci)).map (fun j : Nat => zq_fv b (zq_tc ci j) (f j)))
def zq_ws (w : zq_W) (cA : Nat → ClassId) (b n : Nat) (σ : zq_S) : va_W := (List.range n).map (fun a : Nat => (b + a, zq_ent cA b (w.2 (w.1 a)) (σ a)))
theorem zq_ws_len (w : zq_W) (cA : Nat → ClassId) (b n : Nat) (σ : zq_S) : (zq_ws w cA b n σ).length = n := by simp [zq_ws]
theorem zq_at (w : zq_W) (cA : Nat → ClassId) (b n : Nat) (σ : zq_S) {a : Nat} (h : a < n) : (zq_ws w cA b n σ)[a]? = some (b + a, zq_ent cA b (w.2 (w.1 a)) (σ a)) := by
  simp [zq_ws, h]
theorem zq_at_inv {w : zq_W} {cA : Nat → ClassId} {b n : Nat} {σ : zq_S} {a : Nat} {q : Nat × va_E} (h : (zq_ws w cA b n σ)[a]? = some q) : a < n ∧ q = (b + a, zq_ent cA b (w.2 (w.1 a)) (σ a)) := by
  have h1 : a < n := by
    have := (List.getElem?_eq_some_iff.mp h).1
    rwa [zq_ws_len] at this
  rw [zq_at w cA b n σ h1] at h
  exact ⟨h1, (Option.some.inj h).symm⟩
def zq_up (σ : zq_S) (a i v : Int) : zq_S := fun a' i' => if a' = a ∧ i' = i then v else σ a' i'
theorem zq_up_same (σ : zq_S) (a i v : Int) : zq_up σ a i v a i = v := by simp [zq_up]
theorem zq_up_ne {σ : zq_S} {a i v a' i' : Int} (h : ¬ (a' = a ∧ i' = i)) : zq_up σ a i v a' i' = σ a' i' := by simp [zq_up, h]
/-- one cell's new contents -/
def zq_cell (σ : zq_S) (a : Int) (f : Int → Int) : zq_S := fun a' => if a' = a then f else σ a'
theorem zq_cell_up (σ : zq_S) (a i v : Int) : zq_cell σ a (zq_up σ a i v a) = zq_up σ a i v := by
  funext a' i'
  by_cases h : a' = a
  · subst h; simp [zq_cell]
  · simp [zq_cell, zq_up, h]
theorem zq_ws_set (w : zq_W) (cA : Nat → ClassId) (b n : Nat) (σ : zq_S) {a : Nat} (h : a < n) (f : Int → Int) : (zq_ws w cA b n σ).set a (b + a, zq_ent cA b (w.2 (w.1 a)) f) = zq_ws w cA b n (zq_cell σ a f) := by
  apply List.ext_getElem?
  intro k
  by_cases hk : k = a
  · subst hk
    rw [List.getElem?_set_self (by rw [zq_ws_len]; exact h), zq_at _ _ _ _ _ h]
    simp [zq_cell]
  · rw [List.getElem?_set_ne (Ne.symm hk)]
    by_cases hl : k < n
    · rw [zq_at _ _ _ _ _ hl, zq_at _ _ _ _ _ hl]
      have : (k : Int) ≠ (a : Int) := by omega
      simp [zq_cell, this]
    · rw [List.getElem?_eq_none (by rw [zq_ws_len]; omega), List.getElem?_eq_none (by rw [zq_ws_len]; omega)]
/-- the world's cells are apart, and lie where they may -/
theorem zq_D (w : zq_W) (cA : Nat → ClassId) (b n : Nat) (σ : zq_S) (A : Nat → Prop) (hA : ∀ a : Nat, a < n → A (b + a)) : va_D A (zq_ws w cA b n σ) := by
  refine ⟨fun i j p q hi hj he => ?_, fun k q hk => ?_⟩
  · obtain ⟨-, rfl⟩ := zq_at_inv hi
    obtain ⟨-, rfl⟩ := zq_at_inv hj
    have : b + i = b + j := he
    omega
  · obtain ⟨h, rfl⟩ := zq_at_inv hk
    exact hA k h
/-- how many slots the first n cells have -/
def zq_sz : zq_KI → Nat
  | .inl (_, len) => len
  | .inr ci => zq_nf ci
def zq_so (w : zq_W) : Nat → Nat
  | 0 => 0
  | n + 1 => zq_so w n + zq_sz (w.2 (w.1 n))
theorem zq_so_mono (w : zq_W) (n : Nat) : ∀ k, zq_so w n ≤ zq_so w (n + k)
  | 0 => Nat.le_refl _
  | k + 1 => Nat.le_trans (zq_so_mono w n k) (by show zq_so w (n + k) ≤ zq_so w (n + k) + _; omega)
theorem zq_so_le (w : zq_W) {n m : Nat} (h : n ≤ m) : zq_so w n ≤ zq_so w m := by
  have := zq_so_mono w n (m - n)
  rwa [Nat.add_sub_cancel' h] at this
/-! ===== numbers ===== -/
theorem zq_ofI {x : Int} (h : zq_in x) : (Int32.ofInt x).toInt = x := by
  rw [Int32.toInt_ofInt]
  have e : (Int32.size : Int) = 4294967296 := rfl
  exact Int.bmod_eq_of_le (by omega) (by omega)
theorem zq_ofL {x : Int} (h : zq_inL x) : (Int64.ofInt x).toInt = x := by
  rw [Int64.toInt_ofInt]
  have e : (Int64.size : Int) = 18446744073709551616 := rfl
  exact Int.bmod_eq_of_le (by omega) (by omega)
theorem zq_ltI {x y : Int} (hx : zq_in x) (hy : zq_in y) : Int32.ofInt x < Int32.ofInt y ↔ x < y := by
  rw [Int32.lt_iff_toInt_lt, zq_ofI hx, zq_ofI hy]
theorem zq_leI {x y : Int} (hx : zq_in x) (hy : zq_in y) : Int32.ofInt x ≤ Int32.ofInt y ↔ x ≤ y := by
  rw [Int32.le_iff_toInt_le, zq_ofI hx, zq_ofI hy]
theorem zq_eqI {x y : Int} (hx : zq_in x) (hy : zq_in y) : Int32.ofInt x = Int32.ofInt y ↔ x = y := by
  rw [← Int32.toInt_inj, zq_ofI hx, zq_ofI hy]
theorem zq_0I : (0 : Int32) = Int32.ofInt 0 := rfl
theorem zq_clamp {x : Int} (h : zq_in x) : (Int32.ofInt x).toNatClampNeg = x.toNat := by
  show (Int32.ofInt x).toInt.toNat = x.toNat
  rw [zq_ofI h]
theorem zq_vin {i : Int} {n : Nat} (h0 : 0 ≤ i) (h1 : i < n) (hn : n < 2 ^ 31) : vp_in (Int32.ofInt i) n := by
  rw [vp_in_iff, zq_ofI ⟨by omega, by omega⟩]
  exact ⟨h0, h1⟩

