/-! ===== the judgement over the store, and its rows ===== -/
def zq_ll (b : Nat) : Nat → List (Option zq_Z) → List (Nat × Value)
  | _, [] => []
  | i, none :: r => zq_ll b (i + 1) r
  | i, some v :: r => (i, zq_val b v) :: zq_ll b (i + 1) r
theorem zq_ll_mem {b : Nat} : ∀ {ls : List (Option zq_Z)} {i : Nat} {q : Nat × Value}, q ∈ zq_ll b i ls → ∃ (k : Nat) (z : zq_Z), ls[k]? = some (some z) ∧ q = (i + k, zq_val b z)
  | [], i, q, h => by cases h
  | none :: r, i, q, h => by
    obtain ⟨k, z, h1, h2⟩ := zq_ll_mem (ls := r) (i := i + 1) h
    exact ⟨k + 1, z, by simpa using h1, by rw [h2]; congr 1; omega⟩
  | some v :: r, i, q, h => by
    rcases List.mem_cons.mp h with h | h
    · exact ⟨0, v, rfl, h⟩
    · obtain ⟨k, z, h1, h2⟩ := zq_ll_mem (ls := r) (i := i + 1) h
      exact ⟨k + 1, z, by simpa using h1, by rw [h2]; congr 1; omega⟩
theorem zq_ll_in {b : Nat} : ∀ {ls : List (Option zq_Z)} {i k : Nat} {z : zq_Z}, ls[k]? = some (some z) → (i + k, zq_val b z) ∈ zq_ll b i ls
  | [], i, k, z, h => by simp at h
  | none :: r, i, 0, z, h => by simp at h
  | none :: r, i, k + 1, z, h => by
    have := zq_ll_in (b := b) (ls := r) (i := i + 1) (k := k) (z := z) (by simpa using h)
    rw [show i + (k + 1) = i + 1 + k by omega]
    exact this
  | some v :: r, i, 0, z, h => by
    have : v = z := by simpa using h
    subst this
    exact List.mem_cons_self
  | some v :: r, i, k + 1, z, h => by
    have := zq_ll_in (b := b) (ls := r) (i := i + 1) (k := k) (z := z) (by simpa using h)
    rw [show i + (k + 1) = i + 1 + k by omega]
    exact List.mem_cons_of_mem _ this
theorem zq_lget {b nL : Nat} {lsA : Array Slot} {ls : List (Option zq_Z)} (h : lv_has lsA nL (zq_ll b 0 ls)) {k : Nat} {z : zq_Z} (hk : ls[k]? = some (some z)) : lsA[k]? = some (.val (zq_val b z)) := by
  have := h.2.2 _ (zq_ll_in (b := b) (i := 0) hk)
  simpa using this
theorem zq_lsub {nL : Nat} {lsA : Array Slot} {l l' : List (Nat × Value)} (h : lv_has lsA nL l) (hs : ∀ q ∈ l', q ∈ l) : lv_has lsA nL l' := ⟨h.1, h.2.1, fun q hq => h.2.2 q (hs q hq)⟩
/-- no long lies just ahead of place i -/
def zq_nol (ls : List (Option zq_Z)) (i : Nat) : Bool := match i with
  | 0 => true
  | k + 1 => match ls[k]? with
    | some (some (Sum.inr (Sum.inl _))) => false
    | _ => true
theorem zq_cat {b : Nat} {z : zq_Z} (h : (zq_val b z).category = 2) : ∃ x, z = ZL x := by
  rcases z with x | x | (_ | x)
  · simp [zq_val, Value.category] at h
  · exact ⟨x, rfl⟩
  · simp [zq_val, Value.category] at h
  · simp [zq_val, Value.category] at h
theorem zq_lset {b nL i : Nat} {lsA : Array Slot} {ls : List (Option zq_Z)} {v : zq_Z} (hn : zq_nol ls i = true) (h : lv_has lsA nL ((i, zq_val b v) :: (zq_ll b 0 ls).filter (fun q => !(q.1 == i) && !(q.1 + 1 == i && q.2.category == 2)))) : lv_has lsA nL (zq_ll b 0 (ls.set i (some v))) := by
  refine zq_lsub h (fun q hq => ?_)
  obtain ⟨k, z, h1, rfl⟩ := zq_ll_mem hq
  by_cases hk : k = i
  · subst hk
    by_cases hl : k < ls.length
    · rw [List.getElem?_set_self hl] at h1
      cases h1
      rw [Nat.zero_add]
      exact List.mem_cons_self
    · rw [List.getElem?_eq_none (by rw [List.length_set]; omega)] at h1
      cases h1
  · rw [List.getElem?_set_ne (Ne.symm hk)] at h1
    refine List.mem_cons_of_mem _ (List.mem_filter.mpr ⟨zq_ll_in (i := 0) h1, ?_⟩)
    simp only [Nat.zero_add, Bool.and_eq_true, Bool.not_eq_true', beq_eq_false_iff_ne, ne_eq, Bool.and_eq_false_iff]
    refine ⟨hk, ?_⟩
    by_cases he : k + 1 = i
    · right
      intro hc
      obtain ⟨x, rfl⟩ := zq_cat (by simpa using hc)
      subst he
      simp [zq_nol, h1] at hn
    · left
      exact he
def zq_tys (cA : Nat → ClassId) : List (ClassId × FieldType) := [(cA 0, .int), (cA 1, .object RX3), (cA 2, .array .int)]
def zq_A (b n0 sz : Nat) : Nat → Prop := fun q => (b ≤ q ∧ q < b + n0) ∨ sz ≤ q
def zq_rm (w : zq_W) (n0 n1 fr lo : Nat) : Room := { frames := fr, cells := n1 - n0, slots := zq_so w n1 - zq_so w n0, locals := lo }
def zq_Q (D : va_G) (cA : Nat → ClassId) (w : zq_W) (b n0 n1 : Nat) (Po : Option zq_Z → zq_S → Prop) (A : Nat → Prop) : Array Value → State → Outcome → State → Prop := fun _ st oc t =>
  (∃ (r : Option zq_Z) (σ : zq_S), oc = .returned (r.map (zq_val b)) ∧ Po r σ ∧ va_P D zq_cl (zq_ws w cA b n1 σ) t.heap ∧ va_K D zq_cl (zq_tys cA) t) ∧ va_F A st t ∧ t.heap.size = st.heap.size + (n1 - n0)
def zq_V (p : Program) (l : Launch) (e : Env) (s : State) (m : MethodId) (args : Array Value) (below : List Frame) (meth : Method) (c : Code) (D : va_G) (cA : Nat → ClassId) (b : Nat) (w : zq_W) (nL fr lo n0 n1 : Nat) (Po : Option zq_Z → zq_S → Prop) : Nat → List (Option zq_Z) → List zq_Z → Nat → zq_S → Prop := fun pc ls st n σ =>
  ∀ (H : Heap) (locs : List Loc) (lsA : Array Slot), n0 ≤ n ∧ n ≤ n1 → va_P D zq_cl (zq_ws w cA b n σ) H → va_S (zq_A b n0 s.heap.size) s.heap H locs → H.size = s.heap.size + (n - n0) → lv_has lsA nL (zq_ll b 0 ls) →
    W p l e (zq_rm w n0 n1 fr lo) s m args below meth c H locs (n - n0) (zq_so w n - zq_so w n0) (MQ below (zq_Q D cA w b n0 n1 Po (zq_A b n0 s.heap.size)) args s (n1 - n0) (zq_so w n1 - zq_so w n0) (zq_A b n0 s.heap.size)) (F0 m pc lsA (st.map (zq_val b)))
/-- V is the judgement of some walk through the code cc of a method of the class own -/
def zq_R (w : zq_W) (own : String) (cc : ByteArray) (nL fr lo n0 n1 : Nat) (nm : String) (rt : Option FieldType) (Po : Option zq_Z → zq_S → Prop) (V : Nat → List (Option zq_Z) → List zq_Z → Nat → zq_S → Prop) : Prop :=
  ∃ (p : Program) (l : Launch) (e : Env) (s : State) (m : MethodId) (args : Array Value) (below : List Frame) (meth : Method) (c : Code) (D : va_G) (cA : Nat → ClassId) (b : Nat),
    p.tables.exec = Jvm.exec ∧ c.code = cc ∧ c.maxLocals = nL ∧ s.vm.findClass own = some m.cls ∧ (∀ q ∈ zq_tb, q.before args s = true) ∧ va_K D zq_cl (zq_tys cA) s ∧ b ≤ s.heap.size ∧ (n0 < n1 → s.heap.size = b + n0) ∧ meth.sig.returnType = rt ∧ meth.locks = false ∧ meth.name = nm ∧ zq_X s ∧ V = zq_V p l e s m args below meth c D cA b w nL fr lo n0 n1 Po
theorem fb_rng0 (x : Int32) : -2147483648 ≤ x.toInt ∧ x.toInt < 2147483648 := ⟨Int32.le_toInt x, Int32.toInt_lt x⟩
section ZQRows
variable {w : zq_W} {own : String} {cc : ByteArray} {nL fr lo n0 n1 : Nat} {nm : String} {rt : Option FieldType} {Po : Option zq_Z → zq_S → Prop} {V : Nat → List (Option zq_Z) → List zq_Z → Nat → zq_S → Prop} {pc n : Nat} {ls : List (Option zq_Z)} {st : List zq_Z} {σ : zq_S}
theorem zr_iconst (hV : zq_R w own cc nL fr lo n0 n1 nm rt Po V) (x : Int) {j : Int} (d : decode cc pc = .ok (.iconst j, 1)) (hj : Int32.ofInt j = Int32.ofInt x) (k : V (pc + 1) ls (ZI x :: st) n σ) : V pc ls st n σ := by
  obtain ⟨p, l, e, s, m, args, below, meth, c, D, cA, b, hx, hb, hml, hown, hts, hK, hbs, hal, hrt, hlk, hnm, hXw, rfl⟩ := hV
  intro H locs lsA hnn hP hS hz hl
  refine lv_iconst (v := Int32.ofInt x) hx hb d hj ?_
  exact k H locs lsA hnn hP hS hz hl
theorem zr_bipush (hV : zq_R w own cc nL fr lo n0 n1 nm rt Po V) (x : Int) {j : Int} (d : decode cc pc = .ok (.bipush j, 2)) (hj : (Int8.ofInt j).toInt32 = Int32.ofInt x) (k : V (pc + 2) ls (ZI x :: st) n σ) : V pc ls st n σ := by
  obtain ⟨p, l, e, s, m, args, below, meth, c, D, cA, b, hx, hb, hml, hown, hts, hK, hbs, hal, hrt, hlk, hnm, hXw, rfl⟩ := hV
  intro H locs lsA hnn hP hS hz hl
  refine lv_bipush (v := Int32.ofInt x) hx hb d hj ?_
  exact k H locs lsA hnn hP hS hz hl
theorem zr_sipush (hV : zq_R w own cc nL fr lo n0 n1 nm rt Po V) (x : Int) {j : Int} (d : decode cc pc = .ok (.sipush j, 3)) (hj : (Int16.ofInt j).toInt32 = Int32.ofInt x) (k : V (pc + 3) ls (ZI x :: st) n σ) : V pc ls st n σ := by
  obtain ⟨p, l, e, s, m, args, below, meth, c, D, cA, b, hx, hb, hml, hown, hts, hK, hbs, hal, hrt, hlk, hnm, hXw, rfl⟩ := hV
  intro H locs lsA hnn hP hS hz hl
  refine lv_sipush (v := Int32.ofInt x) hx hb d hj ?_
  exact k H locs lsA hnn hP hS hz hl
theorem zr_lconst (hV : zq_R w own cc nL fr lo n0 n1 nm rt Po V) (x : Int) {j : Fin 2} (d : decode cc pc = .ok (.lconst j, 1)) (hj : Int64.ofNat (j : Nat) = Int64.ofInt x) (k : V (pc + 1) ls (ZL x :: st) n σ) : V pc ls st n σ := by
  obtain ⟨p, l, e, s, m, args, below, meth, c, D, cA, b, hx, hb, hml, hown, hts, hK, hbs, hal, hrt, hlk, hnm, hXw, rfl⟩ := hV
  intro H locs lsA hnn hP hS hz hl
  refine lv_lconst (v := Int64.ofInt x) hx hb d hj ?_
  exact k H locs lsA hnn hP hS hz hl
theorem zr_ldc (hV : zq_R w own cc nL fr lo n0 n1 nm rt Po V) (x : Int) {i : Nat} {v : Int32} (d : decode cc pc = .ok (.ldc i, 2)) (hw : Cond.constant own i v ∈ zq_tb) (hj : v = Int32.ofInt x) (k : V (pc + 2) ls (ZI x :: st) n σ) : V pc ls st n σ := by
  obtain ⟨p, l, e, s, m, args, below, meth, c, D, cA, b, hx, hb, hml, hown, hts, hK, hbs, hal, hrt, hlk, hnm, hXw, rfl⟩ := hV
  intro H locs lsA hnn hP hS hz hl
  subst hj
  refine lv_ldc hx hb hown (hts _ hw) d ?_
  exact k H locs lsA hnn hP hS hz hl
theorem zr_ldcw (hV : zq_R w own cc nL fr lo n0 n1 nm rt Po V) (x : Int) {i : Nat} {v : Int32} (d : decode cc pc = .ok (.ldc_w i, 3)) (hw : Cond.constant own i v ∈ zq_tb) (hj : v = Int32.ofInt x) (k : V (pc + 3) ls (ZI x :: st) n σ) : V pc ls st n σ := by
  obtain ⟨p, l, e, s, m, args, below, meth, c, D, cA, b, hx, hb, hml, hown, hts, hK, hbs, hal, hrt, hlk, hnm, hXw, rfl⟩ := hV
  intro H locs lsA hnn hP hS hz hl
  subst hj
  refine lv_ldcw hx hb hown (hts _ hw) d ?_
  exact k H locs lsA hnn hP hS hz hl
theorem zr_ldc2 (hV : zq_R w own cc nL fr lo n0 n1 nm rt Po V) (x : Int) {i : Nat} {v : Int64} (d : decode cc pc = .ok (.ldc2_w i, 3)) (hw : Cond.constantLong own i v ∈ zq_tb) (hj : v = Int64.ofInt x) (k : V (pc + 3) ls (ZL x :: st) n σ) : V pc ls st n σ := by
  obtain ⟨p, l, e, s, m, args, below, meth, c, D, cA, b, hx, hb, hml, hown, hts, hK, hbs, hal, hrt, hlk, hnm, hXw, rfl⟩ := hV
  intro H locs lsA hnn hP hS hz hl
  subst hj
  refine lv_ldc2 hx hb hown (hts _ hw) d ?_
  exact k H locs lsA hnn hP hS hz hl
theorem zr_null (hV : zq_R w own cc nL fr lo n0 n1 nm rt Po V) (d : decode cc pc = .ok (.aconst_null, 1)) (k : V (pc + 1) ls (ZN :: st) n σ) : V pc ls st n σ := by
  obtain ⟨p, l, e, s, m, args, below, meth, c, D, cA, b, hx, hb, hml, hown, hts, hK, hbs, hal, hrt, hlk, hnm, hXw, rfl⟩ := hV
  intro H locs lsA hnn hP hS hz hl
  refine lv_null hx hb d ?_
  exact k H locs lsA hnn hP hS hz hl
theorem zr_iload_n (hV : zq_R w own cc nL fr lo n0 n1 nm rt Po V) {j : Fin 4} {i : Nat} {x : Int} (d : decode cc pc = .ok (.iload_n j, 1)) (hi : (j : Nat) = i) (hg : ls[i]? = some (some (ZI x))) (k : V (pc + 1) ls (ZI x :: st) n σ) : V pc ls st n σ := by
  obtain ⟨p, l, e, s, m, args, below, meth, c, D, cA, b, hx, hb, hml, hown, hts, hK, hbs, hal, hrt, hlk, hnm, hXw, rfl⟩ := hV
  intro H locs lsA hnn hP hS hz hl
  refine lv_iload_n hx hb d hi (zq_lget hl hg) ?_
  exact k H locs lsA hnn hP hS hz hl
theorem zr_iload (hV : zq_R w own cc nL fr lo n0 n1 nm rt Po V) {i : Nat} {x : Int} (d : decode cc pc = .ok (.iload i, 2)) (hg : ls[i]? = some (some (ZI x))) (k : V (pc + 2) ls (ZI x :: st) n σ) : V pc ls st n σ := by
  obtain ⟨p, l, e, s, m, args, below, meth, c, D, cA, b, hx, hb, hml, hown, hts, hK, hbs, hal, hrt, hlk, hnm, hXw, rfl⟩ := hV
  intro H locs lsA hnn hP hS hz hl
  refine lv_iload hx hb d (zq_lget hl hg) ?_
  exact k H locs lsA hnn hP hS hz hl
theorem zr_lload_n (hV : zq_R w own cc nL fr lo n0 n1 nm rt Po V) {j : Fin 4} {i : Nat} {x : Int} (d : decode cc pc = .ok (.lload_n j, 1)) (hi : (j : Nat) = i) (hg : ls[i]? = some (some (ZL x))) (k : V (pc + 1) ls (ZL x :: st) n σ) : V pc ls st n σ := by
  obtain ⟨p, l, e, s, m, args, below, meth, c, D, cA, b, hx, hb, hml, hown, hts, hK, hbs, hal, hrt, hlk, hnm, hXw, rfl⟩ := hV
  intro H locs lsA hnn hP hS hz hl
  refine lv_lload_n hx hb d hi (zq_lget hl hg) ?_
  exact k H locs lsA hnn hP hS hz hl
theorem zr_lload (hV : zq_R w own cc nL fr lo n0 n1 nm rt Po V) {i : Nat} {x : Int} (d : decode cc pc = .ok (.lload i, 2)) (hg : ls[i]? = some (some (ZL x))) (k : V (pc + 2) ls (ZL x :: st) n σ) : V pc ls st n σ := by
  obtain ⟨p, l, e, s, m, args, below, meth, c, D, cA, b, hx, hb, hml, hown, hts, hK, hbs, hal, hrt, hlk, hnm, hXw, rfl⟩ := hV
  intro H locs lsA hnn hP hS hz hl
  refine lv_lload hx hb d (zq_lget hl hg) ?_
  exact k H locs lsA hnn hP hS hz hl
theorem zr_aload_n (hV : zq_R w own cc nL fr lo n0 n1 nm rt Po V) {j : Fin 4} {i : Nat} {x : Int} (d : decode cc pc = .ok (.aload_n j, 1)) (hi : (j : Nat) = i) (hg : ls[i]? = some (some (ZR x))) (k : V (pc + 1) ls (ZR x :: st) n σ) : V pc ls st n σ := by
  obtain ⟨p, l, e, s, m, args, below, meth, c, D, cA, b, hx, hb, hml, hown, hts, hK, hbs, hal, hrt, hlk, hnm, hXw, rfl⟩ := hV
  intro H locs lsA hnn hP hS hz hl
  refine lv_aload_n hx hb d hi (zq_lget hl hg) ?_
  exact k H locs lsA hnn hP hS hz hl
theorem zr_aload (hV : zq_R w own cc nL fr lo n0 n1 nm rt Po V) {i : Nat} {x : Int} (d : decode cc pc = .ok (.aload i, 2)) (hg : ls[i]? = some (some (ZR x))) (k : V (pc + 2) ls (ZR x :: st) n σ) : V pc ls st n σ := by
  obtain ⟨p, l, e, s, m, args, below, meth, c, D, cA, b, hx, hb, hml, hown, hts, hK, hbs, hal, hrt, hlk, hnm, hXw, rfl⟩ := hV
  intro H locs lsA hnn hP hS hz hl
  refine lv_aload hx hb d (zq_lget hl hg) ?_
  exact k H locs lsA hnn hP hS hz hl
theorem zr_istore_n (hV : zq_R w own cc nL fr lo n0 n1 nm rt Po V) (ls2 : List (Option zq_Z)) {j : Fin 4} {i : Nat} {x : Int} (d : decode cc pc = .ok (.istore_n j, 1)) (hi : (j : Nat) = i) (hn : i < nL) (hno : zq_nol ls i = true) (hs : ls.set i (some (ZI x)) = ls2) (k : V (pc + 1) ls2 st n σ) : V pc ls (ZI x :: st) n σ := by
  obtain ⟨p, l, e, s, m, args, below, meth, c, D, cA, b, hx, hb, hml, hown, hts, hK, hbs, hal, hrt, hlk, hnm, hXw, rfl⟩ := hV
  intro H locs lsA hnn hP hS hz hl
  subst hs
  refine lv_istore_n hx hb d hi hl hn rfl (fun lsB hlB => ?_)
  exact k H locs lsB hnn hP hS hz (zq_lset (v := ZI x) hno hlB)
theorem zr_istore (hV : zq_R w own cc nL fr lo n0 n1 nm rt Po V) (ls2 : List (Option zq_Z)) {i : Nat} {x : Int} (d : decode cc pc = .ok (.istore i, 2)) (hn : i < nL) (hno : zq_nol ls i = true) (hs : ls.set i (some (ZI x)) = ls2) (k : V (pc + 2) ls2 st n σ) : V pc ls (ZI x :: st) n σ := by
  obtain ⟨p, l, e, s, m, args, below, meth, c, D, cA, b, hx, hb, hml, hown, hts, hK, hbs, hal, hrt, hlk, hnm, hXw, rfl⟩ := hV
  intro H locs lsA hnn hP hS hz hl
  subst hs
  refine lv_istore hx hb d hl hn rfl (fun lsB hlB => ?_)
  exact k H locs lsB hnn hP hS hz (zq_lset (v := ZI x) hno hlB)
theorem zr_astore_n (hV : zq_R w own cc nL fr lo n0 n1 nm rt Po V) (ls2 : List (Option zq_Z)) {j : Fin 4} {i : Nat} {x : Int} (d : decode cc pc = .ok (.astore_n j, 1)) (hi : (j : Nat) = i) (hn : i < nL) (hno : zq_nol ls i = true) (hs : ls.set i (some (ZR x)) = ls2) (k : V (pc + 1) ls2 st n σ) : V pc ls (ZR x :: st) n σ := by
  obtain ⟨p, l, e, s, m, args, below, meth, c, D, cA, b, hx, hb, hml, hown, hts, hK, hbs, hal, hrt, hlk, hnm, hXw, rfl⟩ := hV
  intro H locs lsA hnn hP hS hz hl
  subst hs
  refine lv_astore_n hx hb d hi hl hn rfl (fun lsB hlB => ?_)
  exact k H locs lsB hnn hP hS hz (zq_lset (v := ZR x) hno hlB)
theorem zr_astore (hV : zq_R w own cc nL fr lo n0 n1 nm rt Po V) (ls2 : List (Option zq_Z)) {i : Nat} {x : Int} (d : decode cc pc = .ok (.astore i, 2)) (hn : i < nL) (hno : zq_nol ls i = true) (hs : ls.set i (some (ZR x)) = ls2) (k : V (pc + 2) ls2 st n σ) : V pc ls (ZR x :: st) n σ := by
  obtain ⟨p, l, e, s, m, args, below, meth, c, D, cA, b, hx, hb, hml, hown, hts, hK, hbs, hal, hrt, hlk, hnm, hXw, rfl⟩ := hV
  intro H locs lsA hnn hP hS hz hl
  subst hs
  refine lv_astore hx hb d hl hn rfl (fun lsB hlB => ?_)
  exact k H locs lsB hnn hP hS hz (zq_lset (v := ZR x) hno hlB)
theorem zr_astore_nN (hV : zq_R w own cc nL fr lo n0 n1 nm rt Po V) (ls2 : List (Option zq_Z)) {j : Fin 4} {i : Nat} (d : decode cc pc = .ok (.astore_n j, 1)) (hi : (j : Nat) = i) (hn : i < nL) (hno : zq_nol ls i = true) (hs : ls.set i (some ZN) = ls2) (k : V (pc + 1) ls2 st n σ) : V pc ls (ZN :: st) n σ := by
  obtain ⟨p, l, e, s, m, args, below, meth, c, D, cA, b, hx, hb, hml, hown, hts, hK, hbs, hal, hrt, hlk, hnm, hXw, rfl⟩ := hV
  intro H locs lsA hnn hP hS hz hl
  subst hs
  refine lv_astore_nN hx hb d hi hl hn rfl (fun lsB hlB => ?_)
  exact k H locs lsB hnn hP hS hz (zq_lset (v := ZN) hno hlB)
theorem zr_astoreN (hV : zq_R w own cc nL fr lo n0 n1 nm rt Po V) (ls2 : List (Option zq_Z)) {i : Nat} (d : decode cc pc = .ok (.astore i, 2)) (hn : i < nL) (hno : zq_nol ls i = true) (hs : ls.set i (some ZN) = ls2) (k : V (pc + 2) ls2 st n σ) : V pc ls (ZN :: st) n σ := by
  obtain ⟨p, l, e, s, m, args, below, meth, c, D, cA, b, hx, hb, hml, hown, hts, hK, hbs, hal, hrt, hlk, hnm, hXw, rfl⟩ := hV
  intro H locs lsA hnn hP hS hz hl
  subst hs
  refine lv_astoreN hx hb d hl hn rfl (fun lsB hlB => ?_)
  exact k H locs lsB hnn hP hS hz (zq_lset (v := ZN) hno hlB)
theorem zr_aload_nN (hV : zq_R w own cc nL fr lo n0 n1 nm rt Po V) {j : Fin 4} {i : Nat} (d : decode cc pc = .ok (.aload_n j, 1)) (hi : (j : Nat) = i) (hg : ls[i]? = some (some ZN)) (k : V (pc + 1) ls (ZN :: st) n σ) : V pc ls st n σ := by
  obtain ⟨p, l, e, s, m, args, below, meth, c, D, cA, b, hx, hb, hml, hown, hts, hK, hbs, hal, hrt, hlk, hnm, hXw, rfl⟩ := hV
  intro H locs lsA hnn hP hS hz hl
  refine lv_aload_nN hx hb d hi (zq_lget hl hg) ?_
  exact k H locs lsA hnn hP hS hz hl
theorem zr_aloadN (hV : zq_R w own cc nL fr lo n0 n1 nm rt Po V) {i : Nat} (d : decode cc pc = .ok (.aload i, 2)) (hg : ls[i]? = some (some ZN)) (k : V (pc + 2) ls (ZN :: st) n σ) : V pc ls st n σ := by
  obtain ⟨p, l, e, s, m, args, below, meth, c, D, cA, b, hx, hb, hml, hown, hts, hK, hbs, hal, hrt, hlk, hnm, hXw, rfl⟩ := hV
  intro H locs lsA hnn hP hS hz hl
  refine lv_aloadN hx hb d (zq_lget hl hg) ?_
  exact k H locs lsA hnn hP hS hz hl
theorem zq_ofI_add (x y : Int) : Int32.ofInt x + Int32.ofInt y = Int32.ofInt (x + y) := (Int32.ofInt_add x y).symm
theorem zq_ofI_sub (x y : Int) : Int32.ofInt x - Int32.ofInt y = Int32.ofInt (x - y) := (Int32.ofInt_sub x y).symm
theorem zq_ofI_mul (x y : Int) : Int32.ofInt x * Int32.ofInt y = Int32.ofInt (x * y) := (Int32.ofInt_mul x y).symm
theorem zq_ofI_to (z : Int32) : Int32.ofInt z.toInt = z := Int32.ofInt_toInt z
theorem zq_ll_idx {b : Nat} {ls : List (Option zq_Z)} {i : Nat} {x : Int} (hg : ls[i]? = some (some (ZI x))) : ∃ k : Nat, (zq_ll b 0 ls)[k]? = some (i, Value.int (Int32.ofInt x)) := by
  have := zq_ll_in (b := b) (i := 0) hg
  rw [Nat.zero_add] at this
  exact List.getElem?_of_mem this
theorem zr_iinc (hV : zq_R w own cc nL fr lo n0 n1 nm rt Po V) (ls2 : List (Option zq_Z)) {i : Nat} {j x : Int} (y : Int) (d : decode cc pc = .ok (.iinc i j, 3)) (hg : ls[i]? = some (some (ZI x))) (hy : x + j = y) (hn : i < nL) (hno : zq_nol ls i = true) (hs : ls.set i (some (ZI y)) = ls2) (k : V (pc + 3) ls2 st n σ) : V pc ls st n σ := by
  obtain ⟨p, l, e, s, m, args, below, meth, c, D, cA, b, hx, hb, hml, hown, hts, hK, hbs, hal, hrt, hlk, hnm, hXw, rfl⟩ := hV
  intro H locs lsA hnn hP hS hz hl
  subst hs
  subst hy
  obtain ⟨q, hq⟩ := zq_ll_idx (b := b) hg
  refine lv_iinc (v := Int32.ofInt (x + j)) hx hb d hl hq (by rw [zq_ofI_add]) hn rfl (fun lsB hlB => ?_)
  exact k H locs lsB hnn hP hS hz (zq_lset (v := ZI (x + j)) hno hlB)
theorem zr_iadd (hV : zq_R w own cc nL fr lo n0 n1 nm rt Po V) {x y : Int} (d : decode cc pc = .ok (.iadd, 1)) (k : V (pc + 1) ls (ZI (x + y) :: st) n σ) : V pc ls (ZI y :: ZI x :: st) n σ := by
  obtain ⟨p, l, e, s, m, args, below, meth, c, D, cA, b, hx, hb, hml, hown, hts, hK, hbs, hal, hrt, hlk, hnm, hXw, rfl⟩ := hV
  intro H locs lsA hnn hP hS hz hl
  refine lv_iadd hx hb d ?_
  rw [zq_ofI_add]
  exact k H locs lsA hnn hP hS hz hl
theorem zr_isub (hV : zq_R w own cc nL fr lo n0 n1 nm rt Po V) {x y : Int} (d : decode cc pc = .ok (.isub, 1)) (k : V (pc + 1) ls (ZI (x - y) :: st) n σ) : V pc ls (ZI y :: ZI x :: st) n σ := by
  obtain ⟨p, l, e, s, m, args, below, meth, c, D, cA, b, hx, hb, hml, hown, hts, hK, hbs, hal, hrt, hlk, hnm, hXw, rfl⟩ := hV
  intro H locs lsA hnn hP hS hz hl
  refine lv_isub hx hb d ?_
  rw [zq_ofI_sub]
  exact k H locs lsA hnn hP hS hz hl
theorem zr_imul (hV : zq_R w own cc nL fr lo n0 n1 nm rt Po V) {x y : Int} (d : decode cc pc = .ok (.imul, 1)) (k : V (pc + 1) ls (ZI (x * y) :: st) n σ) : V pc ls (ZI y :: ZI x :: st) n σ := by
  obtain ⟨p, l, e, s, m, args, below, meth, c, D, cA, b, hx, hb, hml, hown, hts, hK, hbs, hal, hrt, hlk, hnm, hXw, rfl⟩ := hV
  intro H locs lsA hnn hP hS hz hl
  refine lv_imul hx hb d ?_
  rw [zq_ofI_mul]
  exact k H locs lsA hnn hP hS hz hl
def zq_and (x y : Int) : Int := (Int32.ofInt x &&& Int32.ofInt y).toInt
def zq_or (x y : Int) : Int := (Int32.ofInt x ||| Int32.ofInt y).toInt
def zq_xor (x y : Int) : Int := (Int32.ofInt x ^^^ Int32.ofInt y).toInt
def zq_shl (x y : Int) : Int := (Int32.ofInt x <<< (Int32.ofInt y &&& 31)).toInt
def zq_shr (x y : Int) : Int := (Int32.ofInt x >>> (Int32.ofInt y &&& 31)).toInt
def zq_ushr (x y : Int) : Int := ((Int32.ofInt x).toUInt32 >>> ((Int32.ofInt y).toUInt32 &&& Int32.toUInt32 31)).toInt32.toInt
def zq_div (x y : Int) : Int := (Int32.ofInt x / Int32.ofInt y).toInt
def zq_rem (x y : Int) : Int := (Int32.ofInt x - Int32.ofInt x / Int32.ofInt y * Int32.ofInt y).toInt
def zq_byte (x : Int) : Int := (Int32.ofInt x).toInt8.toInt32.toInt
def zq_short (x : Int) : Int := (Int32.ofInt x).toInt16.toInt32.toInt
def zq_landL (x y : Int) : Int := (Int64.ofInt x &&& Int64.ofInt y).toInt
def zq_lshr (x y : Int) : Int := (Int64.ofInt x >>> ((Int32.ofInt y).toInt64 &&& 63)).toInt
def zq_lushr (x y : Int) : Int := ((Int64.ofInt x).toUInt64 >>> ((Int32.ofInt y).toInt64.toUInt64 &&& Int64.toUInt64 63)).toInt64.toInt
def zq_l2i (x : Int) : Int := (Int64.ofInt x).toInt32.toInt
theorem zq_ofL_to (z : Int64) : Int64.ofInt z.toInt = z := Int64.ofInt_toInt z
theorem zr_iand (hV : zq_R w own cc nL fr lo n0 n1 nm rt Po V) {x y : Int} (d : decode cc pc = .ok (.iand, 1)) (k : V (pc + 1) ls (ZI (zq_and x y) :: st) n σ) : V pc ls (ZI y :: ZI x :: st) n σ := by
  obtain ⟨p, l, e, s, m, args, below, meth, c, D, cA, b, hx, hb, hml, hown, hts, hK, hbs, hal, hrt, hlk, hnm, hXw, rfl⟩ := hV
  intro H locs lsA hnn hP hS hz hl
  refine lv_iand hx hb d ?_
  have hk := k H locs lsA hnn hP hS hz hl
  simp only [List.map_cons, zq_val, zq_and, zq_ofI_to] at hk
  exact hk
theorem zr_ior (hV : zq_R w own cc nL fr lo n0 n1 nm rt Po V) {x y : Int} (d : decode cc pc = .ok (.ior, 1)) (k : V (pc + 1) ls (ZI (zq_or x y) :: st) n σ) : V pc ls (ZI y :: ZI x :: st) n σ := by
  obtain ⟨p, l, e, s, m, args, below, meth, c, D, cA, b, hx, hb, hml, hown, hts, hK, hbs, hal, hrt, hlk, hnm, hXw, rfl⟩ := hV
  intro H locs lsA hnn hP hS hz hl
  refine lv_ior hx hb d ?_
  have hk := k H locs lsA hnn hP hS hz hl
  simp only [List.map_cons, zq_val, zq_or, zq_ofI_to] at hk
  exact hk
theorem zr_ixor (hV : zq_R w own cc nL fr lo n0 n1 nm rt Po V) {x y : Int} (d : decode cc pc = .ok (.ixor, 1)) (k : V (pc + 1) ls (ZI (zq_xor x y) :: st) n σ) : V pc ls (ZI y :: ZI x :: st) n σ := by
  obtain ⟨p, l, e, s, m, args, below, meth, c, D, cA, b, hx, hb, hml, hown, hts, hK, hbs, hal, hrt, hlk, hnm, hXw, rfl⟩ := hV
  intro H locs lsA hnn hP hS hz hl
  refine lv_ixor hx hb d ?_
  have hk := k H locs lsA hnn hP hS hz hl
  simp only [List.map_cons, zq_val, zq_xor, zq_ofI_to] at hk
  exact hk
theorem zr_ishl (hV : zq_R w own cc nL fr lo n0 n1 nm rt Po V) {x y : Int} (d : decode cc pc = .ok (.ishl, 1)) (k : V (pc + 1) ls (ZI (zq_shl x y) :: st) n σ) : V pc ls (ZI y :: ZI x :: st) n σ := by
  obtain ⟨p, l, e, s, m, args, below, meth, c, D, cA, b, hx, hb, hml, hown, hts, hK, hbs, hal, hrt, hlk, hnm, hXw, rfl⟩ := hV
  intro H locs lsA hnn hP hS hz hl
  refine lv_ishl hx hb d ?_
  have hk := k H locs lsA hnn hP hS hz hl
  simp only [List.map_cons, zq_val, zq_shl, zq_ofI_to] at hk
  exact hk
theorem zr_ishr (hV : zq_R w own cc nL fr lo n0 n1 nm rt Po V) {x y : Int} (d : decode cc pc = .ok (.ishr, 1)) (k : V (pc + 1) ls (ZI (zq_shr x y) :: st) n σ) : V pc ls (ZI y :: ZI x :: st) n σ := by
  obtain ⟨p, l, e, s, m, args, below, meth, c, D, cA, b, hx, hb, hml, hown, hts, hK, hbs, hal, hrt, hlk, hnm, hXw, rfl⟩ := hV
  intro H locs lsA hnn hP hS hz hl
  refine lv_ishr hx hb d ?_
  have hk := k H locs lsA hnn hP hS hz hl
  simp only [List.map_cons, zq_val, zq_shr, zq_ofI_to] at hk
  exact hk
theorem zr_iushr (hV : zq_R w own cc nL fr lo n0 n1 nm rt Po V) {x y : Int} (d : decode cc pc = .ok (.iushr, 1)) (k : V (pc + 1) ls (ZI (zq_ushr x y) :: st) n σ) : V pc ls (ZI y :: ZI x :: st) n σ := by
  obtain ⟨p, l, e, s, m, args, below, meth, c, D, cA, b, hx, hb, hml, hown, hts, hK, hbs, hal, hrt, hlk, hnm, hXw, rfl⟩ := hV
  intro H locs lsA hnn hP hS hz hl
  refine lv_iushr hx hb d rfl ?_
  have hk := k H locs lsA hnn hP hS hz hl
  simp only [List.map_cons, zq_val, zq_ushr, zq_ofI_to] at hk
  exact hk
theorem zr_idiv (hV : zq_R w own cc nL fr lo n0 n1 nm rt Po V) {x y : Int} (d : decode cc pc = .ok (.idiv, 1)) (hy : zq_in y) (h0 : y ≠ 0) (k : V (pc + 1) ls (ZI (zq_div x y) :: st) n σ) : V pc ls (ZI y :: ZI x :: st) n σ := by
  obtain ⟨p, l, e, s, m, args, below, meth, c, D, cA, b, hx, hb, hml, hown, hts, hK, hbs, hal, hrt, hlk, hnm, hXw, rfl⟩ := hV
  intro H locs lsA hnn hP hS hz hl
  refine lv_idiv hx hb d (by rw [zq_0I, zq_eqI hy ⟨by omega, by omega⟩]; exact h0) ?_
  have hk := k H locs lsA hnn hP hS hz hl
  simp only [List.map_cons, zq_val, zq_div, zq_ofI_to] at hk
  exact hk
theorem zr_irem (hV : zq_R w own cc nL fr lo n0 n1 nm rt Po V) {x y : Int} (d : decode cc pc = .ok (.irem, 1)) (hy : zq_in y) (h0 : y ≠ 0) (k : V (pc + 1) ls (ZI (zq_rem x y) :: st) n σ) : V pc ls (ZI y :: ZI x :: st) n σ := by
  obtain ⟨p, l, e, s, m, args, below, meth, c, D, cA, b, hx, hb, hml, hown, hts, hK, hbs, hal, hrt, hlk, hnm, hXw, rfl⟩ := hV
  intro H locs lsA hnn hP hS hz hl
  refine lv_irem hx hb d (by rw [zq_0I, zq_eqI hy ⟨by omega, by omega⟩]; exact h0) ?_
  have hk := k H locs lsA hnn hP hS hz hl
  simp only [List.map_cons, zq_val, zq_rem, zq_ofI_to] at hk
  exact hk
theorem zr_i2b (hV : zq_R w own cc nL fr lo n0 n1 nm rt Po V) {x : Int} (d : decode cc pc = .ok (.i2b, 1)) (k : V (pc + 1) ls (ZI (zq_byte x) :: st) n σ) : V pc ls (ZI x :: st) n σ := by
  obtain ⟨p, l, e, s, m, args, below, meth, c, D, cA, b, hx, hb, hml, hown, hts, hK, hbs, hal, hrt, hlk, hnm, hXw, rfl⟩ := hV
  intro H locs lsA hnn hP hS hz hl
  refine lv_i2b hx hb d rfl ?_
  have hk := k H locs lsA hnn hP hS hz hl
  simp only [List.map_cons, zq_val, zq_byte, zq_ofI_to] at hk
  exact hk
theorem zr_i2s (hV : zq_R w own cc nL fr lo n0 n1 nm rt Po V) {x : Int} (d : decode cc pc = .ok (.i2s, 1)) (k : V (pc + 1) ls (ZI (zq_short x) :: st) n σ) : V pc ls (ZI x :: st) n σ := by
  obtain ⟨p, l, e, s, m, args, below, meth, c, D, cA, b, hx, hb, hml, hown, hts, hK, hbs, hal, hrt, hlk, hnm, hXw, rfl⟩ := hV
  intro H locs lsA hnn hP hS hz hl
  refine lv_i2s hx hb d rfl ?_
  have hk := k H locs lsA hnn hP hS hz hl
  simp only [List.map_cons, zq_val, zq_short, zq_ofI_to] at hk
  exact hk
theorem zq_i2lV {x : Int} (h : zq_in x) : (Int32.ofInt x).toInt64 = Int64.ofInt x := by
  rw [← Int64.toInt_inj, Int32.toInt_toInt64, zq_ofI h, zq_ofL ⟨by omega, by omega⟩]
theorem zr_i2l (hV : zq_R w own cc nL fr lo n0 n1 nm rt Po V) {x : Int} (d : decode cc pc = .ok (.i2l, 1)) (hi : zq_in x) (k : V (pc + 1) ls (ZL x :: st) n σ) : V pc ls (ZI x :: st) n σ := by
  obtain ⟨p, l, e, s, m, args, below, meth, c, D, cA, b, hx, hb, hml, hown, hts, hK, hbs, hal, hrt, hlk, hnm, hXw, rfl⟩ := hV
  intro H locs lsA hnn hP hS hz hl
  refine lv_i2l hx hb d (zq_i2lV hi) ?_
  exact k H locs lsA hnn hP hS hz hl
theorem zr_l2i (hV : zq_R w own cc nL fr lo n0 n1 nm rt Po V) {x : Int} (d : decode cc pc = .ok (.l2i, 1)) (k : V (pc + 1) ls (ZI (zq_l2i x) :: st) n σ) : V pc ls (ZL x :: st) n σ := by
  obtain ⟨p, l, e, s, m, args, below, meth, c, D, cA, b, hx, hb, hml, hown, hts, hK, hbs, hal, hrt, hlk, hnm, hXw, rfl⟩ := hV
  intro H locs lsA hnn hP hS hz hl
  refine lv_l2i hx hb d rfl ?_
  have hk := k H locs lsA hnn hP hS hz hl
  simp only [List.map_cons, zq_val, zq_l2i, zq_ofI_to] at hk
  exact hk
theorem zr_land (hV : zq_R w own cc nL fr lo n0 n1 nm rt Po V) {x y : Int} (d : decode cc pc = .ok (.land, 1)) (k : V (pc + 1) ls (ZL (zq_landL x y) :: st) n σ) : V pc ls (ZL y :: ZL x :: st) n σ := by
  obtain ⟨p, l, e, s, m, args, below, meth, c, D, cA, b, hx, hb, hml, hown, hts, hK, hbs, hal, hrt, hlk, hnm, hXw, rfl⟩ := hV
  intro H locs lsA hnn hP hS hz hl
  refine lv_land hx hb d ?_
  have hk := k H locs lsA hnn hP hS hz hl
  simp only [List.map_cons, zq_val, zq_landL, zq_ofL_to] at hk
  exact hk
theorem zr_lshr (hV : zq_R w own cc nL fr lo n0 n1 nm rt Po V) {x y : Int} (d : decode cc pc = .ok (.lshr, 1)) (k : V (pc + 1) ls (ZL (zq_lshr x y) :: st) n σ) : V pc ls (ZI y :: ZL x :: st) n σ := by
  obtain ⟨p, l, e, s, m, args, below, meth, c, D, cA, b, hx, hb, hml, hown, hts, hK, hbs, hal, hrt, hlk, hnm, hXw, rfl⟩ := hV
  intro H locs lsA hnn hP hS hz hl
  refine lv_lshr hx hb d rfl ?_
  have hk := k H locs lsA hnn hP hS hz hl
  simp only [List.map_cons, zq_val, zq_lshr, zq_ofL_to] at hk
  exact hk
theorem zr_lushr (hV : zq_R w own cc nL fr lo n0 n1 nm rt Po V) {x y : Int} (d : decode cc pc = .ok (.lushr, 1)) (k : V (pc + 1) ls (ZL (zq_lushr x y) :: st) n σ) : V pc ls (ZI y :: ZL x :: st) n σ := by
  obtain ⟨p, l, e, s, m, args, below, meth, c, D, cA, b, hx, hb, hml, hown, hts, hK, hbs, hal, hrt, hlk, hnm, hXw, rfl⟩ := hV
  intro H locs lsA hnn hP hS hz hl
  refine lv_lushr hx hb d rfl ?_
  have hk := k H locs lsA hnn hP hS hz hl
  simp only [List.map_cons, zq_val, zq_lushr, zq_ofL_to] at hk
  exact hk
def zq_cmp (x y : Int) : Int := if y < x then 1 else if x = y then 0 else -1
theorem zq_cmpV {x y : Int} (hx : zq_inL x) (hy : zq_inL y) : lg_cmp (Int64.ofInt x) (Int64.ofInt y) = Int32.ofInt (zq_cmp x y) := by
  have e1 : (Int64.ofInt y < Int64.ofInt x) ↔ y < x := by rw [Int64.lt_iff_toInt_lt, zq_ofL hx, zq_ofL hy]
  have e2 : (Int64.ofInt x = Int64.ofInt y) ↔ x = y := by rw [← Int64.toInt_inj, zq_ofL hx, zq_ofL hy]
  unfold lg_cmp zq_cmp
  by_cases h1 : y < x
  · simp [h1, e1.mpr h1]
  · by_cases h2 : x = y
    · subst h2; simp
    · simp [h1, h2, e1, e2]
theorem zr_lcmp (hV : zq_R w own cc nL fr lo n0 n1 nm rt Po V) {x y : Int} (d : decode cc pc = .ok (.lcmp, 1)) (h1 : zq_inL x) (h2 : zq_inL y) (k : V (pc + 1) ls (ZI (zq_cmp x y) :: st) n σ) : V pc ls (ZL y :: ZL x :: st) n σ := by
  obtain ⟨p, l, e, s, m, args, below, meth, c, D, cA, b, hx, hb, hml, hown, hts, hK, hbs, hal, hrt, hlk, hnm, hXw, rfl⟩ := hV
  intro H locs lsA hnn hP hS hz hl
  refine W.lcmp hx hb d ?_
  rw [zq_cmpV h1 h2]
  exact k H locs lsA hnn hP hS hz hl
theorem zr_dup (hV : zq_R w own cc nL fr lo n0 n1 nm rt Po V) {v : zq_Z} (d : decode cc pc = .ok (.dup, 1)) (hc : ∀ b, (zq_val b v).category = 1) (k : V (pc + 1) ls (v :: v :: st) n σ) : V pc ls (v :: st) n σ := by
  obtain ⟨p, l, e, s, m, args, below, meth, c, D, cA, b, hx, hb, hml, hown, hts, hK, hbs, hal, hrt, hlk, hnm, hXw, rfl⟩ := hV
  intro H locs lsA hnn hP hS hz hl
  refine lv_dup hx hb d (hc b) ?_
  exact k H locs lsA hnn hP hS hz hl
theorem zr_pop (hV : zq_R w own cc nL fr lo n0 n1 nm rt Po V) {v : zq_Z} (d : decode cc pc = .ok (.pop, 1)) (hc : ∀ b, (zq_val b v).category = 1) (k : V (pc + 1) ls st n σ) : V pc ls (v :: st) n σ := by
  obtain ⟨p, l, e, s, m, args, below, meth, c, D, cA, b, hx, hb, hml, hown, hts, hK, hbs, hal, hrt, hlk, hnm, hXw, rfl⟩ := hV
  intro H locs lsA hnn hP hS hz hl
  refine lv_pop hx hb d (hc b) ?_
  exact k H locs lsA hnn hP hS hz hl
theorem zr_dup_x1 (hV : zq_R w own cc nL fr lo n0 n1 nm rt Po V) {u v : zq_Z} (d : decode cc pc = .ok (.dup_x1, 1)) (hc : ∀ b, (zq_val b v).category = 1) (hd : ∀ b, (zq_val b u).category = 1) (k : V (pc + 1) ls (v :: u :: v :: st) n σ) : V pc ls (v :: u :: st) n σ := by
  obtain ⟨p, l, e, s, m, args, below, meth, c, D, cA, b, hx, hb, hml, hown, hts, hK, hbs, hal, hrt, hlk, hnm, hXw, rfl⟩ := hV
  intro H locs lsA hnn hP hS hz hl
  refine lv_dup_x1 hx hb d (hc b) (hd b) ?_
  exact k H locs lsA hnn hP hS hz hl
theorem zr_dup2 (hV : zq_R w own cc nL fr lo n0 n1 nm rt Po V) {u v : zq_Z} (d : decode cc pc = .ok (.dup2, 1)) (hc : ∀ b, (zq_val b v).category = 1) (hd : ∀ b, (zq_val b u).category = 1) (k : V (pc + 1) ls (v :: u :: v :: u :: st) n σ) : V pc ls (v :: u :: st) n σ := by
  obtain ⟨p, l, e, s, m, args, below, meth, c, D, cA, b, hx, hb, hml, hown, hts, hK, hbs, hal, hrt, hlk, hnm, hXw, rfl⟩ := hV
  intro H locs lsA hnn hP hS hz hl
  refine lv_dup2_11 hx hb d (hc b) (hd b) ?_
  exact k H locs lsA hnn hP hS hz hl
theorem zr_icmp_eq (hV : zq_R w own cc nL fr lo n0 n1 nm rt Po V) (tgt : Nat) {x y : Int} {off : Int} (d : decode cc pc = .ok (.if_icmp .eq off, 3)) (ht : (pc : Int) + off = (tgt : Int)) (h1 : zq_in x) (h2 : zq_in y) (kt : x = y → V tgt ls st n σ) (kf : ¬ x = y → V (pc + 3) ls st n σ) : V pc ls (ZI y :: ZI x :: st) n σ := by
  obtain ⟨p, l, e, s, m, args, below, meth, c, D, cA, b, hx, hb, hml, hown, hts, hK, hbs, hal, hrt, hlk, hnm, hXw, rfl⟩ := hV
  intro H locs lsA hnn hP hS hz hl
  exact lv_icmp_eq hx hb d ht (fun hc => kt ((zq_eqI h1 h2).mp hc) H locs lsA hnn hP hS hz hl) (fun hc => kf (fun q => hc ((zq_eqI h1 h2).mpr q)) H locs lsA hnn hP hS hz hl)
theorem zr_icmp_ne (hV : zq_R w own cc nL fr lo n0 n1 nm rt Po V) (tgt : Nat) {x y : Int} {off : Int} (d : decode cc pc = .ok (.if_icmp .ne off, 3)) (ht : (pc : Int) + off = (tgt : Int)) (h1 : zq_in x) (h2 : zq_in y) (kt : ¬ x = y → V tgt ls st n σ) (kf : x = y → V (pc + 3) ls st n σ) : V pc ls (ZI y :: ZI x :: st) n σ := by
  obtain ⟨p, l, e, s, m, args, below, meth, c, D, cA, b, hx, hb, hml, hown, hts, hK, hbs, hal, hrt, hlk, hnm, hXw, rfl⟩ := hV
  intro H locs lsA hnn hP hS hz hl
  exact lv_icmp_ne hx hb d ht (fun hc => kt (fun q => hc ((zq_eqI h1 h2).mpr q)) H locs lsA hnn hP hS hz hl) (fun hc => kf ((zq_eqI h1 h2).mp hc) H locs lsA hnn hP hS hz hl)
theorem zr_icmp_lt (hV : zq_R w own cc nL fr lo n0 n1 nm rt Po V) (tgt : Nat) {x y : Int} {off : Int} (d : decode cc pc = .ok (.if_icmp .lt off, 3)) (ht : (pc : Int) + off = (tgt : Int)) (h1 : zq_in x) (h2 : zq_in y) (kt : x < y → V tgt ls st n σ) (kf : ¬ x < y → V (pc + 3) ls st n σ) : V pc ls (ZI y :: ZI x :: st) n σ := by
  obtain ⟨p, l, e, s, m, args, below, meth, c, D, cA, b, hx, hb, hml, hown, hts, hK, hbs, hal, hrt, hlk, hnm, hXw, rfl⟩ := hV
  intro H locs lsA hnn hP hS hz hl
  exact lv_icmp_lt hx hb d ht (fun hc => kt ((zq_ltI h1 h2).mp hc) H locs lsA hnn hP hS hz hl) (fun hc => kf (fun q => hc ((zq_ltI h1 h2).mpr q)) H locs lsA hnn hP hS hz hl)
theorem zr_icmp_ge (hV : zq_R w own cc nL fr lo n0 n1 nm rt Po V) (tgt : Nat) {x y : Int} {off : Int} (d : decode cc pc = .ok (.if_icmp .ge off, 3)) (ht : (pc : Int) + off = (tgt : Int)) (h1 : zq_in x) (h2 : zq_in y) (kt : y ≤ x → V tgt ls st n σ) (kf : ¬ y ≤ x → V (pc + 3) ls st n σ) : V pc ls (ZI y :: ZI x :: st) n σ := by
  obtain ⟨p, l, e, s, m, args, below, meth, c, D, cA, b, hx, hb, hml, hown, hts, hK, hbs, hal, hrt, hlk, hnm, hXw, rfl⟩ := hV
  intro H locs lsA hnn hP hS hz hl
  exact lv_icmp_ge hx hb d ht (fun hc => kt ((zq_leI h2 h1).mp hc) H locs lsA hnn hP hS hz hl) (fun hc => kf (fun q => hc ((zq_leI h2 h1).mpr q)) H locs lsA hnn hP hS hz hl)
theorem zr_icmp_gt (hV : zq_R w own cc nL fr lo n0 n1 nm rt Po V) (tgt : Nat) {x y : Int} {off : Int} (d : decode cc pc = .ok (.if_icmp .gt off, 3)) (ht : (pc : Int) + off = (tgt : Int)) (h1 : zq_in x) (h2 : zq_in y) (kt : y < x → V tgt ls st n σ) (kf : ¬ y < x → V (pc + 3) ls st n σ) : V pc ls (ZI y :: ZI x :: st) n σ := by
  obtain ⟨p, l, e, s, m, args, below, meth, c, D, cA, b, hx, hb, hml, hown, hts, hK, hbs, hal, hrt, hlk, hnm, hXw, rfl⟩ := hV
  intro H locs lsA hnn hP hS hz hl
  exact lv_icmp_gt hx hb d ht (fun hc => kt ((zq_ltI h2 h1).mp hc) H locs lsA hnn hP hS hz hl) (fun hc => kf (fun q => hc ((zq_ltI h2 h1).mpr q)) H locs lsA hnn hP hS hz hl)
theorem zr_icmp_le (hV : zq_R w own cc nL fr lo n0 n1 nm rt Po V) (tgt : Nat) {x y : Int} {off : Int} (d : decode cc pc = .ok (.if_icmp .le off, 3)) (ht : (pc : Int) + off = (tgt : Int)) (h1 : zq_in x) (h2 : zq_in y) (kt : x ≤ y → V tgt ls st n σ) (kf : ¬ x ≤ y → V (pc + 3) ls st n σ) : V pc ls (ZI y :: ZI x :: st) n σ := by
  obtain ⟨p, l, e, s, m, args, below, meth, c, D, cA, b, hx, hb, hml, hown, hts, hK, hbs, hal, hrt, hlk, hnm, hXw, rfl⟩ := hV
  intro H locs lsA hnn hP hS hz hl
  exact lv_icmp_le hx hb d ht (fun hc => kt ((zq_leI h1 h2).mp hc) H locs lsA hnn hP hS hz hl) (fun hc => kf (fun q => hc ((zq_leI h1 h2).mpr q)) H locs lsA hnn hP hS hz hl)
theorem zr_if_eq (hV : zq_R w own cc nL fr lo n0 n1 nm rt Po V) (tgt : Nat) {x : Int} {off : Int} (d : decode cc pc = .ok (.ifCond .eq off, 3)) (ht : (pc : Int) + off = (tgt : Int)) (h1 : zq_in x) (kt : x = 0 → V tgt ls st n σ) (kf : ¬ x = 0 → V (pc + 3) ls st n σ) : V pc ls (ZI x :: st) n σ := by
  obtain ⟨p, l, e, s, m, args, below, meth, c, D, cA, b, hx, hb, hml, hown, hts, hK, hbs, hal, hrt, hlk, hnm, hXw, rfl⟩ := hV
  intro H locs lsA hnn hP hS hz hl
  have h0 : zq_in 0 := ⟨by omega, by omega⟩
  exact lv_if_eq hx hb d ht (fun hc => kt ((zq_eqI h1 h0).mp hc) H locs lsA hnn hP hS hz hl) (fun hc => kf (fun q => hc ((zq_eqI h1 h0).mpr q)) H locs lsA hnn hP hS hz hl)
theorem zr_if_ne (hV : zq_R w own cc nL fr lo n0 n1 nm rt Po V) (tgt : Nat) {x : Int} {off : Int} (d : decode cc pc = .ok (.ifCond .ne off, 3)) (ht : (pc : Int) + off = (tgt : Int)) (h1 : zq_in x) (kt : ¬ x = 0 → V tgt ls st n σ) (kf : x = 0 → V (pc + 3) ls st n σ) : V pc ls (ZI x :: st) n σ := by
  obtain ⟨p, l, e, s, m, args, below, meth, c, D, cA, b, hx, hb, hml, hown, hts, hK, hbs, hal, hrt, hlk, hnm, hXw, rfl⟩ := hV
  intro H locs lsA hnn hP hS hz hl
  have h0 : zq_in 0 := ⟨by omega, by omega⟩
  exact lv_if_ne hx hb d ht (fun hc => kt (fun q => hc ((zq_eqI h1 h0).mpr q)) H locs lsA hnn hP hS hz hl) (fun hc => kf ((zq_eqI h1 h0).mp hc) H locs lsA hnn hP hS hz hl)
theorem zr_if_lt (hV : zq_R w own cc nL fr lo n0 n1 nm rt Po V) (tgt : Nat) {x : Int} {off : Int} (d : decode cc pc = .ok (.ifCond .lt off, 3)) (ht : (pc : Int) + off = (tgt : Int)) (h1 : zq_in x) (kt : x < 0 → V tgt ls st n σ) (kf : ¬ x < 0 → V (pc + 3) ls st n σ) : V pc ls (ZI x :: st) n σ := by
  obtain ⟨p, l, e, s, m, args, below, meth, c, D, cA, b, hx, hb, hml, hown, hts, hK, hbs, hal, hrt, hlk, hnm, hXw, rfl⟩ := hV
  intro H locs lsA hnn hP hS hz hl
  have h0 : zq_in 0 := ⟨by omega, by omega⟩
  exact lv_if_lt hx hb d ht (fun hc => kt ((zq_ltI h1 h0).mp hc) H locs lsA hnn hP hS hz hl) (fun hc => kf (fun q => hc ((zq_ltI h1 h0).mpr q)) H locs lsA hnn hP hS hz hl)
theorem zr_if_ge (hV : zq_R w own cc nL fr lo n0 n1 nm rt Po V) (tgt : Nat) {x : Int} {off : Int} (d : decode cc pc = .ok (.ifCond .ge off, 3)) (ht : (pc : Int) + off = (tgt : Int)) (h1 : zq_in x) (kt : 0 ≤ x → V tgt ls st n σ) (kf : ¬ 0 ≤ x → V (pc + 3) ls st n σ) : V pc ls (ZI x :: st) n σ := by
  obtain ⟨p, l, e, s, m, args, below, meth, c, D, cA, b, hx, hb, hml, hown, hts, hK, hbs, hal, hrt, hlk, hnm, hXw, rfl⟩ := hV
  intro H locs lsA hnn hP hS hz hl
  have h0 : zq_in 0 := ⟨by omega, by omega⟩
  exact lv_if_ge hx hb d ht (fun hc => kt ((zq_leI h0 h1).mp hc) H locs lsA hnn hP hS hz hl) (fun hc => kf (fun q => hc ((zq_leI h0 h1).mpr q)) H locs lsA hnn hP hS hz hl)
theorem zr_if_gt (hV : zq_R w own cc nL fr lo n0 n1 nm rt Po V) (tgt : Nat) {x : Int} {off : Int} (d : decode cc pc = .ok (.ifCond .gt off, 3)) (ht : (pc : Int) + off = (tgt : Int)) (h1 : zq_in x) (kt : 0 < x → V tgt ls st n σ) (kf : ¬ 0 < x → V (pc + 3) ls st n σ) : V pc ls (ZI x :: st) n σ := by
  obtain ⟨p, l, e, s, m, args, below, meth, c, D, cA, b, hx, hb, hml, hown, hts, hK, hbs, hal, hrt, hlk, hnm, hXw, rfl⟩ := hV
  intro H locs lsA hnn hP hS hz hl
  have h0 : zq_in 0 := ⟨by omega, by omega⟩
  exact lv_if_gt hx hb d ht (fun hc => kt ((zq_ltI h0 h1).mp hc) H locs lsA hnn hP hS hz hl) (fun hc => kf (fun q => hc ((zq_ltI h0 h1).mpr q)) H locs lsA hnn hP hS hz hl)
theorem zr_if_le (hV : zq_R w own cc nL fr lo n0 n1 nm rt Po V) (tgt : Nat) {x : Int} {off : Int} (d : decode cc pc = .ok (.ifCond .le off, 3)) (ht : (pc : Int) + off = (tgt : Int)) (h1 : zq_in x) (kt : x ≤ 0 → V tgt ls st n σ) (kf : ¬ x ≤ 0 → V (pc + 3) ls st n σ) : V pc ls (ZI x :: st) n σ := by
  obtain ⟨p, l, e, s, m, args, below, meth, c, D, cA, b, hx, hb, hml, hown, hts, hK, hbs, hal, hrt, hlk, hnm, hXw, rfl⟩ := hV
  intro H locs lsA hnn hP hS hz hl
  have h0 : zq_in 0 := ⟨by omega, by omega⟩
  exact lv_if_le hx hb d ht (fun hc => kt ((zq_leI h1 h0).mp hc) H locs lsA hnn hP hS hz hl) (fun hc => kf (fun q => hc ((zq_leI h1 h0).mpr q)) H locs lsA hnn hP hS hz hl)
theorem zr_goto (hV : zq_R w own cc nL fr lo n0 n1 nm rt Po V) (tgt : Nat) {off : Int} (d : decode cc pc = .ok (.goto off, 3)) (ht : (pc : Int) + off = (tgt : Int)) (k : V tgt ls st n σ) : V pc ls st n σ := by
  obtain ⟨p, l, e, s, m, args, below, meth, c, D, cA, b, hx, hb, hml, hown, hts, hK, hbs, hal, hrt, hlk, hnm, hXw, rfl⟩ := hV
  intro H locs lsA hnn hP hS hz hl
  refine lv_goto hx hb d ht ?_
  exact k H locs lsA hnn hP hS hz hl
theorem zr_ifnull (hV : zq_R w own cc nL fr lo n0 n1 nm rt Po V) {x off : Int} (d : decode cc pc = .ok (.ifnull off, 3)) (k : V (pc + 3) ls st n σ) : V pc ls (ZR x :: st) n σ := by
  obtain ⟨p, l, e, s, m, args, below, meth, c, D, cA, b, hx, hb, hml, hown, hts, hK, hbs, hal, hrt, hlk, hnm, hXw, rfl⟩ := hV
  intro H locs lsA hnn hP hS hz hl
  refine lv_ifnull hx hb d ?_
  exact k H locs lsA hnn hP hS hz hl
theorem zr_ifnullN (hV : zq_R w own cc nL fr lo n0 n1 nm rt Po V) (tgt : Nat) {off : Int} (d : decode cc pc = .ok (.ifnull off, 3)) (ht : (pc : Int) + off = (tgt : Int)) (k : V tgt ls st n σ) : V pc ls (ZN :: st) n σ := by
  obtain ⟨p, l, e, s, m, args, below, meth, c, D, cA, b, hx, hb, hml, hown, hts, hK, hbs, hal, hrt, hlk, hnm, hXw, rfl⟩ := hV
  intro H locs lsA hnn hP hS hz hl
  refine lv_ifnullN hx hb d ht ?_
  exact k H locs lsA hnn hP hS hz hl
theorem zr_ifnonnull (hV : zq_R w own cc nL fr lo n0 n1 nm rt Po V) (tgt : Nat) {x off : Int} (d : decode cc pc = .ok (.ifnonnull off, 3)) (ht : (pc : Int) + off = (tgt : Int)) (k : V tgt ls st n σ) : V pc ls (ZR x :: st) n σ := by
  obtain ⟨p, l, e, s, m, args, below, meth, c, D, cA, b, hx, hb, hml, hown, hts, hK, hbs, hal, hrt, hlk, hnm, hXw, rfl⟩ := hV
  intro H locs lsA hnn hP hS hz hl
  refine lv_ifnonnull hx hb d ht ?_
  exact k H locs lsA hnn hP hS hz hl
theorem zr_ifnonnullN (hV : zq_R w own cc nL fr lo n0 n1 nm rt Po V) {off : Int} (d : decode cc pc = .ok (.ifnonnull off, 3)) (k : V (pc + 3) ls st n σ) : V pc ls (ZN :: st) n σ := by
  obtain ⟨p, l, e, s, m, args, below, meth, c, D, cA, b, hx, hb, hml, hown, hts, hK, hbs, hal, hrt, hlk, hnm, hXw, rfl⟩ := hV
  intro H locs lsA hnn hP hS hz hl
  refine lv_ifnonnullN hx hb d ?_
  exact k H locs lsA hnn hP hS hz hl
theorem zr_any (hV : zq_R w own cc nL fr lo n0 n1 nm rt Po V) {x : Int} (k : ∀ y : Int, zq_in y → Int32.ofInt y = Int32.ofInt x → V pc ls (ZI y :: st) n σ) : V pc ls (ZI x :: st) n σ := by
  obtain ⟨p, l, e, s, m, args, below, meth, c, D, cA, b, hx, hb, hml, hown, hts, hK, hbs, hal, hrt, hlk, hnm, hXw, rfl⟩ := hV
  intro H locs lsA hnn hP hS hz hl
  have hk := k (Int32.ofInt x).toInt ⟨by have := fb_rng0 (Int32.ofInt x); omega, by have := fb_rng0 (Int32.ofInt x); omega⟩ (zq_ofI_to _) H locs lsA hnn hP hS hz hl
  simp only [List.map_cons, zq_val, zq_ofI_to] at hk
  exact hk
end ZQRows

