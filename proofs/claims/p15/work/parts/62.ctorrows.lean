/-! ===== constructors called; arrays of references made ===== -/
def zq_MI (own : String) (idx : Nat) (y : MethodName) (cy : ByteArray) (ny np : Nat) : Prop := Cond.code y cy ny none ∈ zq_tb ∧ Cond.initialized y.cls ∈ zq_tb ∧ Cond.methodLink own idx y ∈ zq_tb ∧ Cond.instanceMethod y ∈ zq_tb ∧ y.name = "<init>" ∧ zq_hd y np
def zq_MN (own : String) (idx : Nat) (y : MethodName) (cy : ByteArray) (ny np : Nat) : Prop := Cond.code y cy ny none ∈ zq_tb ∧ Cond.initialized y.cls ∈ zq_tb ∧ Cond.methodLinkNest own idx y RX11 ∈ zq_Xw ∧ Cond.instanceMethod y ∈ zq_tb ∧ y.name = "<init>" ∧ zq_hd y np
section ZQCtor
variable {w : zq_W} {own : String} {cc : ByteArray} {nL fr lo n0 n1 : Nat} {nm : String} {rt : Option FieldType} {Po : Option zq_Z → zq_S → Prop} {V : Nat → List (Option zq_Z) → List zq_Z → Nat → zq_S → Prop} {pc n : Nat} {ls : List (Option zq_Z)} {st : List zq_Z} {σ : zq_S}
theorem zr_callI (hV : zq_R w own cc nL fr lo n0 n1 nm rt Po V) {a : Int} (As : List zq_Z) {y : MethodName} {cy : ByteArray} {ny fry loy n' idx : Nat} {P : zq_S → Prop} (hC : zq_C w y cy ny none fry loy n n' (ZR a :: As) σ (zq_pv P)) (d : decode cc pc = .ok (.invokespecial idx, 3)) (hM : zq_MI own idx y cy ny As.length) (hroom : fry + 1 ≤ fr ∧ 8 + (ny + 11) + loy ≤ lo) (hst : st.length ≤ 4) (hn : n ≤ n' ∧ n' ≤ n1)
    (k : ∀ τ, P τ → V (pc + 3) ls st n' τ) : V pc ls (As.reverse ++ ZR a :: st) n σ := by
  obtain ⟨p, l, e, s, m, args, below, meth, c, D, cA, b, hx, hb, hml, hown, hts, hK, hbs, hal, hrt, hlk, hnm, hXw, rfl⟩ := hV
  intro H locs lsA hnn hP hS hz hl
  obtain ⟨hcd, hini, hlink, hins, hy1, hd⟩ := hM
  have hm1 := zq_so_le w hnn.1
  have hm2 := zq_so_le w hn.1
  have hm3 := zq_so_le w hn.2
  refine zq_after hal hnn hn hS hz hl (va_runI (As := As.map (zq_val b)) (b := b + a.toNat) (rest := st.map (zq_val b)) ⟨hx, hb, hml, hown, hts⟩ (hC l D cA b H.size) ⟨callB_of As.length hts (zq_good_code hcd) rfl rfl rfl (hts _ hini) (hts _ hlink) hd hroom, hy1, hts _ hins⟩ ⟨zq_blind, fun U hU hW => ⟨rfl, by rw [hU], by have := hS.1; omega, fun h => by have := hal (by omega); omega, by rw [hU]; exact hP, va_K.moved hW.alike hK, zq_X_warm hW hXw⟩⟩ rfl (by simp) hl.1 ?_ (lv_room (zq_room hst)) d ⟨by show n - n0 + (n' - n) ≤ n1 - n0; omega, by show zq_so w n - zq_so w n0 + (zq_so w n' - zq_so w n) ≤ zq_so w n1 - zq_so w n0; omega⟩) ?_
  · show (As.reverse ++ ZR a :: st).map (zq_val b) = _
    simp [zq_val]
  · rintro r σ' ⟨rfl, hp⟩
    exact k σ' hp
theorem zr_callN (hV : zq_R w own cc nL fr lo n0 n1 nm rt Po V) {a : Int} (As : List zq_Z) {y : MethodName} {cy : ByteArray} {ny fry loy n' idx : Nat} {P : zq_S → Prop} (hC : zq_C w y cy ny none fry loy n n' (ZR a :: As) σ (zq_pv P)) (d : decode cc pc = .ok (.invokespecial idx, 3)) (hM : zq_MN own idx y cy ny As.length) (hroom : fry + 1 ≤ fr ∧ 8 + (ny + 11) + loy ≤ lo) (hst : st.length ≤ 4) (hn : n ≤ n' ∧ n' ≤ n1)
    (k : ∀ τ, P τ → V (pc + 3) ls st n' τ) : V pc ls (As.reverse ++ ZR a :: st) n σ := by
  obtain ⟨p, l, e, s, m, args, below, meth, c, D, cA, b, hx, hb, hml, hown, hts, hK, hbs, hal, hrt, hlk, hnm, hXw, rfl⟩ := hV
  intro H locs lsA hnn hP hS hz hl
  obtain ⟨hcd, hini, hlink, hins, hy1, hd⟩ := hM
  have hm1 := zq_so_le w hnn.1
  have hm2 := zq_so_le w hn.1
  have hm3 := zq_so_le w hn.2
  refine zq_after hal hnn hn hS hz hl (va_runIN (As := As.map (zq_val b)) (b := b + a.toNat) (rest := st.map (zq_val b)) ⟨hx, hb, hml, hown, hts⟩ (hC l D cA b H.size) ⟨va_cnB As.length hts (zq_good_code hcd) rfl rfl rfl (hXw _ hlink) (hts _ hini) hd hroom, hy1, hts _ hins⟩ ⟨zq_blind, fun U hU hW => ⟨rfl, by rw [hU], by have := hS.1; omega, fun h => by have := hal (by omega); omega, by rw [hU]; exact hP, va_K.moved hW.alike hK, zq_X_warm hW hXw⟩⟩ rfl (by simp) hl.1 ?_ (lv_room (zq_room hst)) d ⟨by show n - n0 + (n' - n) ≤ n1 - n0; omega, by show zq_so w n - zq_so w n0 + (zq_so w n' - zq_so w n) ≤ zq_so w n1 - zq_so w n0; omega⟩) ?_
  · show (As.reverse ++ ZR a :: st).map (zq_val b) = _
    simp [zq_val]
  · rintro r σ' ⟨rfl, hp⟩
    exact k σ' hp
/-- a new array of Orders -/
theorem zr_anew (hV : zq_R w own cc nL fr lo n0 n1 nm rt Po V) {x : Int} {idx : Nat} (len : Nat) (d : decode cc pc = .ok (.anewarray idx, 3)) (hxl : x = (len : Int)) (hlen : Nat.ble len 40000 = true) (hcl : Cond.classLink own idx RX3 ∈ zq_tb) (hw : w.2 (w.1 (n : Int)) = .inl (1, len)) (hn1 : n < n1) (k : ∀ τ, τ = zq_cell σ (n : Int) (fun _ => -1) → V (pc + 3) ls (ZR (n : Int) :: st) (n + 1) τ) : V pc ls (ZI x :: st) n σ := by
  obtain ⟨p, l, e, s, m, args, below, meth, c, D, cA, b, hx, hb, hml, hown, hts, hK, hbs, hal, hrt, hlk, hnm, hXw, rfl⟩ := hV
  intro H locs lsA hnn hP hS hz hl
  have hlen := Nat.le_of_ble_eq_true hlen
  have hsz : H.size = b + n := by have := hal (by omega); omega
  have hso : zq_so w (n + 1) = zq_so w n + len := by show zq_so w n + zq_sz (w.2 (w.1 (n : Int))) = _; rw [hw]; rfl
  have hm1 := zq_so_le w hnn.1
  have hm2 := zq_so_le w (show n + 1 ≤ n1 by omega)
  have hin : zq_in x := ⟨by omega, by omega⟩
  have hc : (Int32.ofInt x).toNatClampNeg = len := by rw [zq_clamp hin]; omega
  refine W.anew (g := F0 m pc lsA (.int (Int32.ofInt x) :: st.map (zq_val b))) hx hb hown (hts _ hcl) (va_AO.use (hXw (.arrayOver (.object RX3)) (by decide +kernel))) rfl d rfl (by rw [zq_0I, zq_ltI hin ⟨by omega, by omega⟩]; omega) (by rw [hc]; omega) (by show n - n0 + 1 ≤ n1 - n0; omega) (by rw [hc]; show zq_so w n - zq_so w n0 + len ≤ zq_so w n1 - zq_so w n0; omega) fun cX kA comp f1 f2 f3 f4 => ?_
  obtain ⟨kA2, comp2, -, -, -, g4⟩ := (hK.2 1 _ (rfl : (zq_tys cA)[1]? = some (cA 1, .object RX3))).2
  have hcx : cX = cA 1 := Option.some.inj (f1.symm.trans g4)
  subst hcx
  rw [hc]
  generalize hH1 : H.push ({ cls := cA 1, slots := Array.replicate len .null, vm := .none } : Cell) = H1
  have z1 : H1.size = H.size + 1 := by rw [← hH1, Array.size_push]
  have e1 : H1[H.size]? = some (arrV (cA 1) len (fun _ => .null)) := by rw [← hH1, Array.getElem?_push_size, ← arrV_new]
  have o1 : ∀ q : Nat, q < H.size → H1[q]? = H[q]? := fun q hq => by rw [← hH1, Array.getElem?_push, if_neg (Nat.ne_of_lt hq)]
  have hP1 : va_P D zq_cl (zq_ws w cA b (n + 1) (zq_cell σ (n : Int) (fun _ => -1))) H1 := by
    intro a q hq
    obtain ⟨ha, rfl⟩ := zq_at_inv hq
    by_cases hc2 : a = n
    · subst hc2
      rw [hw, zq_ent_ref]
      show H1[b + a]? = some (vp_cell _ _)
      rw [← hsz, e1, vp_cell_q]
      simp only [zq_cell, if_true]
      rfl
    · have ha2 : a < n := by omega
      have := (hP a _ (zq_at w cA b n σ ha2)).kept (o1 (b + a) (by omega))
      have hne : ((a : Nat) : Int) ≠ (n : Int) := by omega
      rw [show zq_cell σ (n : Int) (fun _ => -1) (a : Int) = σ a from if_neg hne]
      exact this
  have hS1 : va_S (zq_A b n0 s.heap.size) s.heap H1 locs := ⟨by have := hS.1; omega, fun q h1 h2 => (o1 q (by have := hS.1; omega)).trans (hS.2.1 q h1 h2), hS.2.2⟩
  have hk := k _ rfl H1 locs lsA ⟨by omega, by omega⟩ hP1 hS1 (by rw [z1, hz]; omega) hl
  rw [show n + 1 - n0 = n - n0 + 1 by omega, show zq_so w (n + 1) - zq_so w n0 = zq_so w n - zq_so w n0 + len by omega] at hk
  rw [hsz]
  exact hk
end ZQCtor
/-! ===== where the rows lie ===== -/
theorem zq_so_rows (w : zq_W) (n N M : Nat) (hw : w.2 (w.1 (n : Int)) = .inl (2, N)) (hwr : ∀ j : Nat, j < N → w.2 (w.1 (((n + 1 + j : Nat)) : Int)) = .inl (0, M)) : ∀ k : Nat, k ≤ N → zq_so w (n + 1 + k) = zq_so w n + N + k * M
  | 0, _ => by
    show zq_so w n + zq_sz (w.2 (w.1 (n : Int))) = _
    rw [hw]
    show zq_so w n + N = _
    omega
  | k + 1, h => by
    show zq_so w (n + 1 + k) + zq_sz (w.2 (w.1 ((n + 1 + k : Nat) : Int))) = _
    rw [hwr k (by omega), zq_so_rows w n N M hw hwr k (by omega)]
    show _ + M = _
    rw [Nat.succ_mul]
    omega
/-! ===== new int[n][m], from the model's own words ===== -/
/-- the outer array when k of its rows stand behind it; a row; the state then -/
def zqm_out (c : ClassId) (N h k : Nat) : Cell := arrV c N (fun j => va_rf (if j < k then some (h + 1 + j) else none))
def zqm_row (c : ClassId) (M : Nat) : Cell := arrV c M (fun _ => .int 0)
def zqm_st (T : State) (cO cI : ClassId) (N M : Nat) : Nat → State
  | 0 => T.pushCell (zqm_out cO N T.heap.size 0)
  | k + 1 => ((zqm_st T cO cI N M k).pushCell (zqm_row cI M)).setCell T.heap.size (zqm_out cO N T.heap.size (k + 1))
theorem zqm_out0 (c : ClassId) (N h : Nat) : ({ cls := c, slots := Array.replicate N .null, vm := .none } : Cell) = zqm_out c N h 0 := by
  rw [arrV_new]
  exact congrArg (arrV c N) (funext fun j => by simp [va_rf])
theorem zqm_outS (c : ClassId) (N h k : Nat) : (zqm_out c N h k).setSlot k (.ref (h + 1 + k)) = zqm_out c N h (k + 1) := by
  unfold zqm_out
  rw [arrV_store]
  refine congrArg (arrV c N) (funext fun j => ?_)
  rcases Nat.lt_trichotomy j k with h1 | h1 | h1
  · simp only [updV, if_neg (Nat.ne_of_lt h1), if_pos h1, if_pos (Nat.lt_succ_of_lt h1)]
  · subst h1
    simp only [updV, if_true, if_pos (Nat.lt_succ_self j), va_rf]
  · simp only [updV, if_neg (Nat.ne_of_gt h1), if_neg (Nat.lt_asymm h1), if_neg (Nat.not_lt.mpr (Nat.succ_le_of_lt h1))]
/-- what the state shows: the tables, sizes, the old cells, the outer array, the rows -/
def zqm_is (T : State) (cO cI : ClassId) (N M k : Nat) (F : State) : Prop :=
  F.vm = T.vm ∧ F.heap.size = T.heap.size + 1 + k ∧ F.slotsUsed = T.slotsUsed + N + k * M ∧ (∀ q : Nat, q < T.heap.size → F.heap[q]? = T.heap[q]?) ∧ F.heap[T.heap.size]? = some (zqm_out cO N T.heap.size k) ∧ ∀ j : Nat, j < k → F.heap[T.heap.size + 1 + j]? = some (zqm_row cI M)
theorem zqm_shows (T : State) (cO cI : ClassId) (N M : Nat) : ∀ k : Nat, zqm_is T cO cI N M k (zqm_st T cO cI N M k)
  | 0 => by
    refine ⟨rfl, State.heap_size_pushCell _ _, ?_, fun q hq => State.heap_pushCell_of_lt _ _ hq, State.heap_pushCell_size _ _, fun j hj => absurd hj (Nat.not_lt_zero j)⟩
    show T.slotsUsed + (zqm_out cO N T.heap.size 0).slots.size = _
    rw [zqm_out, arrV_size]
    omega
  | k + 1 => by
    obtain ⟨iv, iz, iu, io, it, ir⟩ := zqm_shows T cO cI N M k
    show zqm_is T cO cI N M (k + 1) (((zqm_st T cO cI N M k).pushCell (zqm_row cI M)).setCell T.heap.size (zqm_out cO N T.heap.size (k + 1)))
    generalize zqm_st T cO cI N M k = F at iv iz iu io it ir ⊢
    have hlt : T.heap.size < F.heap.size := by omega
    have ht : (F.pushCell (zqm_row cI M)).heap[T.heap.size]? = some (zqm_out cO N T.heap.size k) := (State.heap_pushCell_of_lt _ _ hlt).trans it
    refine ⟨iv, ?_, ?_, fun q hq => ?_, State.heap_setCell_self ht, fun j hj => ?_⟩
    · show ((F.heap.push (zqm_row cI M)).setIfInBounds T.heap.size _).size = _
      rw [Array.size_setIfInBounds, Array.size_push, iz]
      omega
    · show F.slotsUsed + (zqm_row cI M).slots.size = _
      rw [zqm_row, arrV_size, iu, Nat.succ_mul]
      omega
    · rw [State.heap_setCell_other (Nat.ne_of_gt hq), State.heap_pushCell_of_lt _ _ (Nat.lt_trans hq hlt)]
      exact io q hq
    · rw [State.heap_setCell_other (show T.heap.size ≠ T.heap.size + 1 + j by omega)]
      by_cases h : j < k
      · rw [State.heap_pushCell_of_lt _ _ (show T.heap.size + 1 + j < F.heap.size by omega)]
        exact ir j h
      · rw [show T.heap.size + 1 + j = F.heap.size by omega]
        exact State.heap_pushCell_size _ _
theorem zqm_top (T : State) (g : JFrame) (cO cI : ClassId) (N M : Nat) : ∀ k : Nat, zqm_st (T.setTop g) cO cI N M k = (zqm_st T cO cI N M k).setTop g
  | 0 => rfl
  | k + 1 => by
    show ((zqm_st (T.setTop g) cO cI N M k).pushCell _).setCell _ _ = _
    rw [zqm_top T g cO cI N M k]
    rfl
section ZMMake
variable {E : CtlPost} {e : Env} {d : Bool} {acts : List Action} {s : State}
theorem zqm_make1 {cI cc : ClassId} {kI : Class} {y : Int32} {M : Nat} (hk : s.vm.classes[cI]? = some kI) (hkind : kI.kind = .array cc .int) (hy : ¬ y < 0) (hM : y.toNatClampNeg = M)
    (h1 : ¬ M > e.platform.arrayLengthLimit) (h2 : ¬ M * 4 > e.platform.maxHeapBytes) (h3 : s.heap.size < e.platform.maxCells) (h4 : s.slotsUsed + M ≤ e.platform.maxSlots) {Q : Addr → Pre}
    (hq : ∀ acts', Q s.heap.size d acts' (s.pushCell (zqm_row cI M))) : wp (multianewarray.make cI [y]) Q E e d acts s := by
  subst hM
  rw [multianewarray.make]
  simp only [wp_bind', Jvm.W.ite, hy, if_false, wp_pure', Jvm.W.theClass, hk, hkind, Option.some.injEq, exists_eq_left']
  refine Jvm.W.newArray_of hk hkind h1 h2 h3 h4 rfl fun acts' => ?_
  have := hq acts'
  rw [zqm_row, ← arrV_new] at this
  exact this
theorem zqm_make2 {cO cI cc : ClassId} {kO kI : Class} {x y : Int32} {N M : Nat} (hkO : s.vm.classes[cO]? = some kO) (hO : kO.kind = .array cI (.array .int)) (hkI : s.vm.classes[cI]? = some kI) (hI : kI.kind = .array cc .int)
    (hx : ¬ x < 0) (hy : ¬ y < 0) (hN : x.toNatClampNeg = N) (hM : y.toNatClampNeg = M) (a1 : ¬ N > e.platform.arrayLengthLimit) (a2 : ¬ N * 4 > e.platform.maxHeapBytes) (b1 : ¬ M > e.platform.arrayLengthLimit) (b2 : ¬ M * 4 > e.platform.maxHeapBytes)
    (hc : s.heap.size + (1 + N) ≤ e.platform.maxCells) (hs : s.slotsUsed + (N + N * M) ≤ e.platform.maxSlots) {Q : Addr → Pre} (hq : ∀ d' acts', Q s.heap.size d' acts' (zqm_st s cO cI N M N)) : wp (multianewarray.make cO [x, y]) Q E e d acts s := by
  have hf : [y].find? (· < 0) = none := by simp [hy]
  rw [multianewarray.make]
  simp only [wp_bind', Jvm.W.ite, hx, if_false, wp_pure', Jvm.W.theClass, hkO, hO, Option.some.injEq, exists_eq_left', hN]
  refine Jvm.W.newArray_of hkO hO a1 a2 (by omega) (by omega) rfl fun acts' => ?_
  have e0 : s.pushCell ({ cls := cO, slots := Array.replicate N .null } : Cell) = zqm_st s cO cI N M 0 := congrArg s.pushCell (zqm_out0 cO N s.heap.size)
  rw [e0]
  simp only [hf]
  rw [ite_self, wp_bind', Std.Legacy.Range.forIn_eq_forIn_range', show ([:N] : Std.Legacy.Range).size = N by simp [Std.Legacy.Range.size]]
  refine wp_forIn_inv (fun rest S => ∃ k, k ≤ N ∧ rest = List.range' k (N - k) ∧ S = zqm_st s cO cI N M k) _ _ ⟨0, Nat.zero_le N, rfl, rfl⟩ ?_ ?_
  · rintro j rest S d' acts'' Q' ⟨k, hk, hl, rfl⟩ hnext
    obtain ⟨q, hqk⟩ : ∃ q, N - k = q + 1 := by
      cases hz : N - k with
      | zero => rw [hz] at hl; cases hl
      | succ q => exact ⟨q, rfl⟩
    rw [hqk, List.range'_succ] at hl
    obtain ⟨rfl, hr⟩ := List.cons.inj hl
    have hlt : j + 1 ≤ N := by omega
    have hmul : j * M + M ≤ N * M := by
      rw [← Nat.succ_mul]
      exact Nat.mul_le_mul_right M hlt
    obtain ⟨iv, iz, iu, -, it, -⟩ := zqm_shows s cO cI N M j
    have hq1 : q = N - (j + 1) := by omega
    simp only [wp_bind']
    refine zqm_make1 (by rw [iv]; exact hkI) hI hy hM b1 b2 (by omega) (by omega) fun acts3 => ?_
    simp only [wp_bind', Jvm.W.writeLoc, wp_pure']
    refine ⟨zqm_out cO N s.heap.size j, (State.heap_pushCell_of_lt _ _ (show s.heap.size < (zqm_st s cO cI N M j).heap.size by omega)).trans it, by simp [zqm_out, arrV], by rw [zqm_out, arrV_size]; omega, ?_, hnext _ _ _ ⟨j + 1, hlt, by rw [hr, hq1], ?_⟩⟩
    · show State.fitsSlot _ cO .none j _ = true
      simp [State.fitsSlot, State.slotType?, iv, hkO, hO, fits]
    · rw [iz, zqm_outS]
      rfl
  · rintro S d' acts'' ⟨k, hk, hl, rfl⟩
    have hkN : k = N := by
      cases hz : N - k with
      | zero => omega
      | succ q => rw [hz, List.range'_succ] at hl; cases hl
    subst hkN
    simp only [wp_pure']
    exact hq _ _
end ZMMake
theorem zqm_over {args : Array Value} {s : State} (h : (Cond.arrayOver (.array .int)).before args s = true) :
    ∃ cI cO kO, s.vm.findClass "[I" = some cI ∧ s.vm.findClass "[[I" = some cO ∧ s.vm.classes[cO]? = some kO ∧ kO.kind = .array cI (.array .int) := by
  have e1 : (FieldType.array .int).toString = "[I" := by decide
  have e2 : "[" ++ "[I" = "[[I" := by decide
  simp only [Cond.before, Cond.holds, Cond.value, beq_iff_eq] at h
  obtain ⟨cI, hc, h⟩ := Option.bind_eq_some_iff.mp h
  obtain ⟨cO, hf, h⟩ := Option.bind_eq_some_iff.mp h
  obtain ⟨kO, hk, h⟩ := Option.map_eq_some_iff.mp h
  have hp := (Array.findIdx?_eq_some_iff_getElem.mp hf).2.1
  rw [(Array.getElem?_eq_some_iff.mp hk).2] at hp
  rw [e1] at hc
  cases hkind : kO.kind with
  | array a t =>
    rw [hkind] at h hp
    simp only [beq_iff_eq, Bool.and_eq_true, decide_eq_true_eq, e1, e2] at h hp
    exact ⟨cI, cO, kO, hc, h.2, hk, by rw [hkind, hp, h.1]⟩
  | _ =>
    rw [hkind] at h
    cases h
section ZMRun
variable {p : Program} {l : Launch} {e : Env} {R : Room} {s : State} {m : MethodId} {args : Array Value} {below : List Frame} {meth : Method} {c : Code} {T : State} {locs : List Loc} {cells slots : Nat}
theorem zqm_stand (X : Stand p l e R s m args below meth c T locs cells slots) (cO cI : ClassId) (N M : Nat) : ∀ k : Nat, Stand p l e R s m args below meth c (zqm_st T cO cI N M k) locs (cells + 1 + k) (slots + N + k * M)
  | 0 => by
    have h := X.pushed (zqm_out cO N T.heap.size 0)
    rw [show (zqm_out cO N T.heap.size 0).slots.size = N from arrV_size _ _ _] at h
    rw [Nat.zero_mul]
    exact h
  | k + 1 => by
    obtain ⟨-, iz, -, -, it, -⟩ := zqm_shows T cO cI N M k
    have h := ((zqm_stand X cO cI N M k).pushed (zqm_row cI M)).stored ((State.heap_pushCell_of_lt _ _ (show T.heap.size < (zqm_st T cO cI N M k).heap.size by omega)).trans it) k (.ref (T.heap.size + 1 + k))
    rw [zqm_outS, show (zqm_row cI M).slots.size = M from arrV_size _ _ _] at h
    have h2 := h.dropFresh (fun x hx => by rw [List.mem_singleton.mp hx]; exact X.heapGrown)
    rw [Nat.succ_mul, show slots + N + (k * M + M) = slots + N + k * M + M from (Nat.add_assoc _ _ _).symm]
    exact h2
theorem zqm_run (X : Stand p l e R s m args below meth c T locs cells slots) (hexec : p.tables.exec = Jvm.exec) {own : String} {index : Nat} (hown : s.vm.findClass own = some m.cls)
    (hclink : (Cond.classLink own index "[[I").before args s = true) (hover : (Cond.arrayOver (.array .int)).before args s = true) (harr : (Cond.arrayClass .int).before args s = true)
    {g : JFrame} (hg : g.method = m) (hdg : decode c.code g.pc = .ok (.multianewarray index 2, 4)) {x y : Int32} {N M : Nat} {rest : List Value} (hstack : g.stack = .int y :: .int x :: rest)
    (hx : ¬ x < 0) (hy : ¬ y < 0) (hN : x.toNatClampNeg = N) (hM : y.toNatClampNeg = M) (hN1 : N ≤ 1000) (hM1 : M ≤ 1000) (hcells : cells + (1 + N) ≤ R.cells) (hslots : slots + (N + N * M) ≤ R.slots) :
    ∃ (vm₁ : Vm) (cO cI : ClassId), s.vm.findClass "[[I" = some cO ∧ s.vm.findClass "[I" = some cI ∧ Stand p l e R s m args below meth c (zqm_st (T.setVm vm₁) cO cI N M N) locs (cells + 1 + N) (slots + N + N * M) ∧
      ∀ target, Steps p.tables e below ((zqm_st (T.setVm vm₁) cO cI N M N).setTop { g with pc := g.pc + 4, stack := .ref T.heap.size :: rest }) target → Steps p.tables e below (T.setTop g) target := by
  subst hg
  obtain ⟨cI, cO, kO, fI, fO, hkO, hkindO⟩ := zqm_over hover
  obtain ⟨cI2, kI, cc, fI2, hkI, hkindI⟩ := Cond.arrayClass_spec harr
  have e1 : "[" ++ (FieldType.int).toString = "[I" := by decide
  rw [e1] at fI2
  cases fI.symm.trans fI2
  obtain ⟨cO2, fO2, hcl⟩ := Cond.classLink_spec hown hclink e.platform (by rw [X.admits.platform])
  cases fO.symm.trans fO2
  obtain ⟨gives, warm, -⟩ := State.classEntry (e := e) X.warmed hcl
  generalize T.vm.noted g.method.cls index (.cls cO) = vm₁ at gives warm
  have hal : s.vm.Alike vm₁ := warm.alike
  obtain ⟨kO1, hkO1, eO⟩ := hal.2.2 _ _ hkO
  obtain ⟨kI1, hkI1, eI⟩ := hal.2.2 _ _ hkI
  have hkindO1 : kO1.kind = .array cI (.array .int) := by rw [eO]; exact hkindO
  have hkindI1 : kI1.kind = .array cc .int := by rw [eI]; exact hkindI
  have r := X.roomAbove hcells hslots
  have lim : e.platform.arrayLengthLimit = 2147483645 := Launch.admits_arrayLengthLimit X.admits
  have byt : e.platform.maxHeapBytes = 536870912 := Launch.admits_maxHeapBytes X.admits
  have XF := zqm_stand (X.noted warm) cO cI N M N
  refine ⟨vm₁, cO, cI, fO, fI, XF, fun target hrest => ?_⟩
  jvm_step X.here [hexec, hdg]
  simp only [multianewarray.sem, wp_bind', Jvm.W.resolveClassAt_links (State.method?_setTop g X.here.top) gives]
  rw [Jvm.W.popN, if_neg (by decide)]
  refine ⟨g, State.topJava?_setTop' (s := T.setVm vm₁) g X.here.top, [.int x, .int y], rest, rfl, hstack, ?_⟩
  simp only [List.mapM_cons, List.mapM_nil, wp_bind', wp_pure']
  refine zqm_make2 (s := ((T.setTop g).setVm vm₁).setTop { g with stack := rest }) (kO := kO1) (kI := kI1) hkO1 hkindO1 hkI1 hkindI1 hx hy hN hM (by omega) (by omega) (by omega) (by omega) r.1 r.2 fun d' acts' => ?_
  have eS : ((T.setTop g).setVm vm₁).setTop { g with stack := rest } = (T.setVm vm₁).setTop { g with stack := rest } := State.setTop_setTop (T.setVm vm₁) g _
  rw [eS, zqm_top]
  simp only [wp_bind', Jvm.W.mark, Jvm.W.pushRef, State.topJava?_setTop' _ XF.here.top, Option.some.injEq, exists_eq_left', State.setTop_setTop, State.heap_setTop]
  intro acts2
  simp [jvm, XF.here.top]
  exact hrest
end ZMRun
section ZQMna
variable {w : zq_W} {own : String} {cc : ByteArray} {nL fr lo n0 n1 : Nat} {nm : String} {rt : Option FieldType} {Po : Option zq_Z → zq_S → Prop} {V : Nat → List (Option zq_Z) → List zq_Z → Nat → zq_S → Prop} {pc n : Nat} {ls : List (Option zq_Z)} {st : List zq_Z} {σ : zq_S}
/-- new int[n][m]: the rows lie behind -/
theorem zr_mna (hV : zq_R w own cc nL fr lo n0 n1 nm rt Po V) {x y : Int} {idx : Nat} (N M : Nat) (d : decode cc pc = .ok (.multianewarray idx 2, 4)) (hxl : x = (N : Int)) (hyl : y = (M : Int)) (hN : Nat.ble N 1000 = true) (hM : Nat.ble M 1000 = true) (hcl : Cond.classLink own idx "[[I" ∈ zq_tb) (harr : Cond.arrayClass .int ∈ zq_tb) (hw : w.2 (w.1 (n : Int)) = .inl (2, N)) (hwr : ∀ j : Nat, j < N → w.2 (w.1 (((n + 1 + j : Nat)) : Int)) = .inl (0, M)) (hn1 : n + 1 + N ≤ n1) (k : ∀ τ : zq_S, (∀ i : Int, 0 ≤ i → i < N → τ (n : Int) i = (n : Int) + 1 + i) → (∀ i : Int, ¬ (0 ≤ i ∧ i < N) → τ (n : Int) i = -1) → (∀ a i : Int, (n : Int) < a → a ≤ n + N → τ a i = 0) → (∀ a i : Int, a < (n : Int) ∨ (n : Int) + N < a → τ a i = σ a i) → V (pc + 4) ls (ZR (n : Int) :: st) (n + 1 + N) τ) : V pc ls (ZI y :: ZI x :: st) n σ := by
  obtain ⟨p, l, e, s, m, args, below, meth, c, D, cA, b, hx, hb, hml, hown, hts, hK, hbs, hal, hrt, hlk, hnm, hXw, rfl⟩ := hV
  intro H locs lsA hnn hP hS hz hl
  have hN := Nat.le_of_ble_eq_true hN
  have hM := Nat.le_of_ble_eq_true hM
  have hsz : H.size = b + n := by have := hal (by omega); omega
  have hso := zq_so_rows w n N M hw hwr N (Nat.le_refl _)
  have hm1 := zq_so_le w hnn.1
  have hm2 := zq_so_le w hn1
  have ix : zq_in x := ⟨by omega, by omega⟩
  have iy : zq_in y := ⟨by omega, by omega⟩
  have cx : (Int32.ofInt x).toNatClampNeg = N := by rw [zq_clamp ix]; omega
  have cy : (Int32.ofInt y).toNatClampNeg = M := by rw [zq_clamp iy]; omega
  have hov : (Cond.arrayOver (.array .int)).before args s = true := hXw (.arrayOver (.array .int)) (by decide +kernel)
  intro T hT Xs
  obtain ⟨vm₁, cX, comp, fA, fC, X', step⟩ := zqm_run Xs hx hown (hts _ hcl) hov (hts _ harr) (g := F0 m pc lsA (.int (Int32.ofInt y) :: .int (Int32.ofInt x) :: st.map (zq_val b))) rfl (by rw [hb]; exact d) rfl (by rw [zq_0I, zq_ltI ix ⟨by omega, by omega⟩]; omega) (by rw [zq_0I, zq_ltI iy ⟨by omega, by omega⟩]; omega) cx cy hN hM (by show n - n0 + (1 + N) ≤ n1 - n0; omega) (by show zq_so w n - zq_so w n0 + (N + N * M) ≤ zq_so w n1 - zq_so w n0; omega)
  have hcx : cX = cA 2 := Option.some.inj (fA.symm.trans (hK.2 2 _ (rfl : (zq_tys cA)[2]? = some (cA 2, .array .int))).2)
  have hco : comp = cA 0 := Option.some.inj (fC.symm.trans (hK.2 0 _ (rfl : (zq_tys cA)[0]? = some (cA 0, .int))).2)
  subst hcx
  subst hco
  have hTh : (T.setVm vm₁).heap = H := hT
  obtain ⟨-, f1, -, hold, f2, hrow⟩ := zqm_shows (T.setVm vm₁) (cA 2) (cA 0) N M N
  generalize zqm_st (T.setVm vm₁) (cA 2) (cA 0) N M N = F at X' step f1 hold f2 hrow
  rw [hTh] at f1 hold f2 hrow
  obtain ⟨τ, hτ⟩ : ∃ τ : zq_S, τ = fun a i => if a = (n : Int) then (if 0 ≤ i ∧ i < (N : Int) then (n : Int) + 1 + i else -1) else if (n : Int) < a ∧ a ≤ (n : Int) + N then 0 else σ a i := ⟨_, rfl⟩
  have t1 : ∀ i : Int, τ (n : Int) i = if 0 ≤ i ∧ i < (N : Int) then (n : Int) + 1 + i else -1 := fun i => by rw [hτ]; exact if_pos rfl
  have t2 : ∀ a i : Int, (n : Int) < a → a ≤ n + N → τ a i = 0 := fun a i h1 h2 => by
    rw [hτ]
    show (if a = (n : Int) then _ else if (n : Int) < a ∧ a ≤ (n : Int) + N then 0 else σ a i) = 0
    rw [if_neg (by omega), if_pos ⟨h1, h2⟩]
  have t3 : ∀ a i : Int, a < (n : Int) ∨ (n : Int) + N < a → τ a i = σ a i := fun a i h => by
    rw [hτ]
    show (if a = (n : Int) then _ else if (n : Int) < a ∧ a ≤ (n : Int) + N then 0 else σ a i) = σ a i
    rw [if_neg (by omega), if_neg (by omega)]
  have hP1 : va_P D zq_cl (zq_ws w cA b (n + 1 + N) τ) F.heap := by
    intro a q hq
    obtain ⟨ha, rfl⟩ := zq_at_inv hq
    by_cases h1 : a < n
    · have := (hP a _ (zq_at w cA b n σ h1)).kept (hold (b + a) (by omega))
      rw [show τ (a : Int) = σ a from funext fun i => t3 _ i (by omega)]
      exact this
    · by_cases h2 : a = n
      · subst h2
        rw [hw, zq_ent_ref]
        show F.heap[b + a]? = some (vp_cell _ _)
        rw [← hsz, f2, vp_cell_q, zqm_out]
        refine congrArg some (congrArg (arrV (cA 2) N) (funext fun j => ?_))
        rw [t1]
        by_cases hj : j < N
        · rw [if_pos hj, if_pos ⟨by omega, by omega⟩]
          simp only [zq_rf]
          rw [if_neg (by omega)]
          congr 2
          omega
        · rw [if_neg hj, if_neg (by omega)]
          rfl
      · obtain ⟨j, rfl⟩ : ∃ j, a = n + 1 + j := ⟨a - (n + 1), by omega⟩
        rw [hwr j (by omega), zq_ent_int]
        show F.heap[b + (n + 1 + j)]? = some (vp_cell _ _)
        rw [show b + (n + 1 + j) = H.size + 1 + j by omega, hrow j (by omega), vp_cell_i]
        refine congrArg some (congrArg (arrV (cA 0) M) (funext fun q => ?_))
        rw [t2 _ _ (by omega) (by omega)]
        rfl
  have hS1 : va_S (zq_A b n0 s.heap.size) s.heap F.heap locs := ⟨by rw [f1]; have := hS.1; omega, fun q h1 h2 => (hold q (by have := hS.1; omega)).trans (hS.2.1 q h1 h2), hS.2.2⟩
  have hk := k τ (fun i h0 h1 => by rw [t1, if_pos ⟨h0, h1⟩]) (fun i h => by rw [t1, if_neg h]) t2 t3 F.heap locs lsA ⟨by omega, hn1⟩ hP1 hS1 (by rw [f1, hz]; omega) hl
  rw [show n + 1 + N - n0 = n - n0 + 1 + N by omega, show zq_so w (n + 1 + N) - zq_so w n0 = zq_so w n - zq_so w n0 + N + N * M by omega] at hk
  obtain ⟨t, a1, b1⟩ := hk F rfl X'
  refine ⟨t, step t ?_, b1⟩
  have e9 : T.heap.size = b + n := by rw [hT]; exact hsz
  rw [e9]
  exact a1
end ZQMna
