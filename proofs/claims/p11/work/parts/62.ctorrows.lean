/-! ===== constructors called; arrays of references made ===== -/
def zq_MI (own : String) (idx : Nat) (y : MethodName) (cy : ByteArray) (ny np : Nat) : Prop := Cond.code y cy ny none ∈ zq_tb ∧ Cond.initialized y.cls ∈ zq_tb ∧ Cond.methodLink own idx y ∈ zq_tb ∧ Cond.instanceMethod y ∈ zq_tb ∧ y.name = "<init>" ∧ zq_hd y np
def zq_MN (own : String) (idx : Nat) (y : MethodName) (cy : ByteArray) (ny np : Nat) : Prop := Cond.code y cy ny none ∈ zq_tb ∧ Cond.initialized y.cls ∈ zq_tb ∧ Cond.methodLinkNest own idx y RX11 ∈ zq_Xw ∧ Cond.instanceMethod y ∈ zq_tb ∧ y.name = "<init>" ∧ zq_hd y np
section ZQCtor
variable {w : zq_W} {own : String} {cc : ByteArray} {nL fr lo n0 n1 : Nat} {nm : String} {rt : Option FieldType} {Po : Option zq_Z → zq_S → Prop} {V : Nat → List (Option zq_Z) → List zq_Z → Nat → zq_S → Prop} {pc n : Nat} {ls : List (Option zq_Z)} {st : List zq_Z} {σ : zq_S}
theorem zr_callI (hV : zq_R w own cc nL fr lo n0 n1 nm rt Po V) {a : Int} (As : List zq_Z) {y : MethodName} {cy : ByteArray} {ny fry loy n' idx : Nat} {P : zq_S → Prop} (hC : zq_C w y cy ny none fry loy n n' (ZR a :: As) σ (zq_pv P)) (d : decode cc pc = .ok (.invokespecial idx, 3)) (hM : zq_MI own idx y cy ny As.length) (hroom : fry + 1 ≤ fr ∧ 8 + (ny + 11) + loy ≤ lo) (hst : st.length ≤ 4) (hn : n ≤ n' ∧ n' ≤ n1)
    (k : ∀ τ, P τ → V (pc + 3) ls st n' τ) : V pc ls (As.reverse ++ ZR a :: st) n σ := by
  obtain ⟨p, l, e, s, m, args, below, meth, c, D, cA, b, hx, hb, hml, hown, hts, hK, hbs, hal, hrt, hlk, hnm, hXw, rfl⟩ := hV
  intro H locs lsA hnn hP hS hz hl
  obtain ⟨hcd, hini, hlink, hins, hy1, hd⟩ := hM
  have hm1 := zq_so_le w hnn.1
  have hm2 := zq_so_le w hn.1
  have hm3 := zq_so_le w hn.2
  refine zq_after hal hnn hn hS hz hl (va_runI (As := As.map (zq_val b)) (b := b + a.toNat) (rest := st.map (zq_val b)) ⟨hx, hb, hml, hown, hts⟩ (hC l D cA b H.size) ⟨callB_of As.length hts (zq_good_code hcd) rfl rfl rfl (hts _ hini) (hts _ hlink) hd hroom, hy1, hts _ hins⟩ ⟨zq_blind, fun U hU hW => ⟨rfl, by rw [hU], by have := hS.1; omega, fun h => by have := hal (by omega); omega, by rw [hU]; exact hP, va_K.moved hW.alike hK, zq_X_warm hW hXw⟩⟩ rfl (by simp) hl.1 ?_ (lv_room (zq_room hst)) d ⟨by show n - n0 + (n' - n) ≤ n1 - n0; omega, by show zq_so w n - zq_so w n0 + (zq_so w n' - zq_so w n) ≤ zq_so w n1 - zq_so w n0; omega⟩) ?_
  · show (As.reverse ++ ZR a :: st).map (zq_val b) = _
    simp [zq_val]
  · rintro r σ' ⟨rfl, hp⟩
    exact k σ' hp
theorem zr_callN (hV : zq_R w own cc nL fr lo n0 n1 nm rt Po V) {a : Int} (As : List zq_Z) {y : MethodName} {cy : ByteArray} {ny fry loy n' idx : Nat} {P : zq_S → Prop} (hC : zq_C w y cy ny none fry loy n n' (ZR a :: As) σ (zq_pv P)) (d : decode cc pc = .ok (.invokespecial idx, 3)) (hM : zq_MN own idx y cy ny As.length) (hroom : fry + 1 ≤ fr ∧ 8 + (ny + 11) + loy ≤ lo) (hst : st.length ≤ 4) (hn : n ≤ n' ∧ n' ≤ n1)
    (k : ∀ τ, P τ → V (pc + 3) ls st n' τ) : V pc ls (As.reverse ++ ZR a :: st) n σ := by
  obtain ⟨p, l, e, s, m, args, below, meth, c, D, cA, b, hx, hb, hml, hown, hts, hK, hbs, hal, hrt, hlk, hnm, hXw, rfl⟩ := hV
  intro H locs lsA hnn hP hS hz hl
  obtain ⟨hcd, hini, hlink, hins, hy1, hd⟩ := hM
  have hm1 := zq_so_le w hnn.1
  have hm2 := zq_so_le w hn.1
  have hm3 := zq_so_le w hn.2
  refine zq_after hal hnn hn hS hz hl (va_runIN (As := As.map (zq_val b)) (b := b + a.toNat) (rest := st.map (zq_val b)) ⟨hx, hb, hml, hown, hts⟩ (hC l D cA b H.size) ⟨va_cnB As.length hts (zq_good_code hcd) rfl rfl rfl (hXw _ hlink) (hts _ hini) hd hroom, hy1, hts _ hins⟩ ⟨zq_blind, fun U hU hW => ⟨rfl, by rw [hU], by have := hS.1; omega, fun h => by have := hal (by omega); omega, by rw [hU]; exact hP, va_K.moved hW.alike hK, zq_X_warm hW hXw⟩⟩ rfl (by simp) hl.1 ?_ (lv_room (zq_room hst)) d ⟨by show n - n0 + (n' - n) ≤ n1 - n0; omega, by show zq_so w n - zq_so w n0 + (zq_so w n' - zq_so w n) ≤ zq_so w n1 - zq_so w n0; omega⟩) ?_
  · show (As.reverse ++ ZR a :: st).map (zq_val b) = _
    simp [zq_val]
  · rintro r σ' ⟨rfl, hp⟩
    exact k σ' hp
/-- a new array of Orders -/
theorem zr_anew (hV : zq_R w own cc nL fr lo n0 n1 nm rt Po V) {x : Int} {idx : Nat} (len : Nat) (d : decode cc pc = .ok (.anewarray idx, 3)) (hxl : x = (len : Int)) (hlen : Nat.ble len 40000 = true) (hcl : Cond.classLink own idx RX3 ∈ zq_tb) (hw : w.2 (w.1 (n : Int)) = .inl (1, len)) (hn1 : n < n1) (k : ∀ τ, τ = zq_cell σ (n : Int) (fun _ => -1) → V (pc + 3) ls (ZR (n : Int) :: st) (n + 1) τ) : V pc ls (ZI x :: st) n σ := by
  obtain ⟨p, l, e, s, m, args, below, meth, c, D, cA, b, hx, hb, hml, hown, hts, hK, hbs, hal, hrt, hlk, hnm, hXw, rfl⟩ := hV
  intro H locs lsA hnn hP hS hz hl
  have hlen := Nat.le_of_ble_eq_true hlen
  have hsz : H.size = b + n := by have := hal (by omega); omega
  have hso : zq_so w (n + 1) = zq_so w n + len := by show zq_so w n + zq_sz (w.2 (w.1 (n : Int))) = _; rw [hw]; rfl
  have hm1 := zq_so_le w hnn.1
  have hm2 := zq_so_le w (show n + 1 ≤ n1 by omega)
  have hin : zq_in x := ⟨by omega, by omega⟩
  have hc : (Int32.ofInt x).toNatClampNeg = len := by rw [zq_clamp hin]; omega
  refine W.anew (g := F0 m pc lsA (.int (Int32.ofInt x) :: st.map (zq_val b))) hx hb hown (hts _ hcl) (va_AO.use (hXw (.arrayOver (.object RX3)) (by decide +kernel))) rfl d rfl (by rw [zq_0I, zq_ltI hin ⟨by omega, by omega⟩]; omega) (by rw [hc]; omega) (by show n - n0 + 1 ≤ n1 - n0; omega) (by rw [hc]; show zq_so w n - zq_so w n0 + len ≤ zq_so w n1 - zq_so w n0; omega) fun cX kA comp f1 f2 f3 f4 => ?_
  obtain ⟨kA2, comp2, -, -, -, g4⟩ := (hK.2 1 _ (rfl : (zq_tys cA)[1]? = some (cA 1, .object RX3))).2
  have hcx : cX = cA 1 := Option.some.inj (f1.symm.trans g4)
  subst hcx
  rw [hc]
  generalize hH1 : H.push ({ cls := cA 1, slots := Array.replicate len .null, vm := .none } : Cell) = H1
  have z1 : H1.size = H.size + 1 := by rw [← hH1, Array.size_push]
  have e1 : H1[H.size]? = some (arrV (cA 1) len (fun _ => .null)) := by rw [← hH1, Array.getElem?_push_size, ← arrV_new]
  have o1 : ∀ q : Nat, q < H.size → H1[q]? = H[q]? := fun q hq => by rw [← hH1, Array.getElem?_push, if_neg (Nat.ne_of_lt hq)]
  have hP1 : va_P D zq_cl (zq_ws w cA b (n + 1) (zq_cell σ (n : Int) (fun _ => -1))) H1 := by
    intro a q hq
    obtain ⟨ha, rfl⟩ := zq_at_inv hq
    by_cases hc2 : a = n
    · subst hc2
      rw [hw, zq_ent_ref]
      show H1[b + a]? = some (vp_cell _ _)
      rw [← hsz, e1, vp_cell_q]
      simp only [zq_cell, if_true]
      rfl
    · have ha2 : a < n := by omega
      have := (hP a _ (zq_at w cA b n σ ha2)).kept (o1 (b + a) (by omega))
      have hne : ((a : Nat) : Int) ≠ (n : Int) := by omega
      rw [show zq_cell σ (n : Int) (fun _ => -1) (a : Int) = σ a from if_neg hne]
      exact this
  have hS1 : va_S (zq_A b n0 s.heap.size) s.heap H1 locs := ⟨by have := hS.1; omega, fun q h1 h2 => (o1 q (by have := hS.1; omega)).trans (hS.2.1 q h1 h2), hS.2.2⟩
  have hk := k _ rfl H1 locs lsA ⟨by omega, by omega⟩ hP1 hS1 (by rw [z1, hz]; omega) hl
  rw [show n + 1 - n0 = n - n0 + 1 by omega, show zq_so w (n + 1) - zq_so w n0 = zq_so w n - zq_so w n0 + len by omega] at hk
  rw [hsz]
  exact hk
end ZQCtor
/-! ===== new int[n][m] ===== -/
theorem zq_outer (c : ClassId) (N h0 : Nat) : ∀ i : Nat, Jvm.Free.Multi.outerC c N h0 i = arrV c N (fun j => va_rf (if j < i then some (h0 + 1 + j) else none))
  | 0 => by
    show ({ cls := c, slots := Array.replicate N .null, vm := .none } : Cell) = _
    rw [arrV_new]
    exact congrArg (arrV c N) (funext fun j => by simp [va_rf])
  | i + 1 => by
    show (Jvm.Free.Multi.outerC c N h0 i).setSlot i (.ref (h0 + 1 + i)) = _
    rw [zq_outer c N h0 i, arrV_store]
    refine congrArg (arrV c N) (funext fun j => ?_)
    by_cases e : j = i
    · subst e
      simp [updV, va_rf]
    · by_cases h : j < i
      · simp [updV, e, h, Nat.lt_succ_of_lt h]
      · simp [updV, e, h, show ¬ j < i + 1 by omega]
theorem zq_so_rows (w : zq_W) (n N M : Nat) (hw : w.2 (w.1 (n : Int)) = .inl (2, N)) (hwr : ∀ j : Nat, j < N → w.2 (w.1 (((n + 1 + j : Nat)) : Int)) = .inl (0, M)) : ∀ k : Nat, k ≤ N → zq_so w (n + 1 + k) = zq_so w n + N + k * M
  | 0, _ => by
    show zq_so w n + zq_sz (w.2 (w.1 (n : Int))) = _
    rw [hw]
    show zq_so w n + N = _
    omega
  | k + 1, h => by
    show zq_so w (n + 1 + k) + zq_sz (w.2 (w.1 ((n + 1 + k : Nat) : Int))) = _
    rw [hwr k (by omega), zq_so_rows w n N M hw hwr k (by omega)]
    show _ + M = _
    rw [Nat.succ_mul]
    omega
section ZQMna
variable {w : zq_W} {own : String} {cc : ByteArray} {nL fr lo n0 n1 : Nat} {nm : String} {rt : Option FieldType} {Po : Option zq_Z → zq_S → Prop} {V : Nat → List (Option zq_Z) → List zq_Z → Nat → zq_S → Prop} {pc n : Nat} {ls : List (Option zq_Z)} {st : List zq_Z} {σ : zq_S}
/-- new int[n][m]: the rows lie behind -/
theorem zr_mna (hV : zq_R w own cc nL fr lo n0 n1 nm rt Po V) {x y : Int} {idx : Nat} (N M : Nat) (d : decode cc pc = .ok (.multianewarray idx 2, 4)) (hxl : x = (N : Int)) (hyl : y = (M : Int)) (hN : Nat.ble N 1000 = true) (hM : Nat.ble M 1000 = true) (hcl : Cond.classLink own idx "[[I" ∈ zq_tb) (harr : Cond.arrayClass .int ∈ zq_tb) (hw : w.2 (w.1 (n : Int)) = .inl (2, N)) (hwr : ∀ j : Nat, j < N → w.2 (w.1 (((n + 1 + j : Nat)) : Int)) = .inl (0, M)) (hn1 : n + 1 + N ≤ n1) (k : ∀ τ : zq_S, (∀ i : Int, 0 ≤ i → i < N → τ (n : Int) i = (n : Int) + 1 + i) → (∀ i : Int, ¬ (0 ≤ i ∧ i < N) → τ (n : Int) i = -1) → (∀ a i : Int, (n : Int) < a → a ≤ n + N → τ a i = 0) → (∀ a i : Int, a < (n : Int) ∨ (n : Int) + N < a → τ a i = σ a i) → V (pc + 4) ls (ZR (n : Int) :: st) (n + 1 + N) τ) : V pc ls (ZI y :: ZI x :: st) n σ := by
  obtain ⟨p, l, e, s, m, args, below, meth, c, D, cA, b, hx, hb, hml, hown, hts, hK, hbs, hal, hrt, hlk, hnm, hXw, rfl⟩ := hV
  intro H locs lsA hnn hP hS hz hl
  have hN := Nat.le_of_ble_eq_true hN
  have hM := Nat.le_of_ble_eq_true hM
  have hsz : H.size = b + n := by have := hal (by omega); omega
  have hso := zq_so_rows w n N M hw hwr N (Nat.le_refl _)
  have hm1 := zq_so_le w hnn.1
  have hm2 := zq_so_le w hn1
  have ix : zq_in x := ⟨by omega, by omega⟩
  have iy : zq_in y := ⟨by omega, by omega⟩
  have cx : (Int32.ofInt x).toNatClampNeg = N := by rw [zq_clamp ix]; omega
  have cy : (Int32.ofInt y).toNatClampNeg = M := by rw [zq_clamp iy]; omega
  have es : "[" ++ (FieldType.array .int).toString = "[[I" := by decide
  have hclk : (Cond.classLink own idx ("[" ++ (FieldType.array .int).toString)).before args s = true := by rw [es]; exact hts _ hcl
  have hov : (Cond.arrayOver (.array .int)).before args s = true := hXw (.arrayOver (.array .int)) (by decide +kernel)
  intro T hT Xs
  obtain ⟨vm₁, cX, comp, -, fA, fC, -, -, X', step⟩ := Xs.multianewarray2F hx hown hclk hov (hts _ harr) (g := F0 m pc lsA (.int (Int32.ofInt y) :: .int (Int32.ofInt x) :: st.map (zq_val b))) rfl (by rw [hb]; exact d) rfl (by rw [zq_0I, zq_ltI ix ⟨by omega, by omega⟩]; omega) (by rw [zq_0I, zq_ltI iy ⟨by omega, by omega⟩]; omega) (by rw [cx]; omega) (by rw [cy]; show M * 4 ≤ 536870912; omega) (by rw [cy]; omega) rfl rfl (by rw [cx]; show n - n0 + (1 + N) ≤ n1 - n0; omega) (by rw [cx, cy]; show zq_so w n - zq_so w n0 + (N + N * M) ≤ zq_so w n1 - zq_so w n0; omega)
  rw [cx, cy] at X' step
  have hcx : cX = cA 2 := Option.some.inj (fA.symm.trans (hK.2 2 _ (rfl : (zq_tys cA)[2]? = some (cA 2, .array .int))).2)
  have hco : comp = cA 0 := Option.some.inj (fC.symm.trans (hK.2 0 _ (rfl : (zq_tys cA)[0]? = some (cA 0, .int))).2)
  subst hcx
  subst hco
  have hTh : (T.setVm vm₁).heap = H := hT
  generalize hF : Jvm.Free.Multi.fill (T.setVm vm₁) (cA 2) (cA 0) N M (defaultValue .int) N = F at X' step
  obtain ⟨f1, f2, -, -⟩ := Jvm.Free.Multi.fill_facts (T.setVm vm₁) (cA 2) (cA 0) N M (defaultValue .int) N
  rw [hF, hTh] at f1 f2
  have hold : ∀ q : Nat, q < H.size → F.heap[q]? = H[q]? := fun q hq => by
    have := Jvm.Free.Multi.fill_old (T.setVm vm₁) (cA 2) (cA 0) N M (defaultValue .int) (a := q) (by rw [hTh]; exact hq) N
    rw [hF, hTh] at this
    exact this
  have hrow : ∀ j : Nat, j < N → F.heap[H.size + 1 + j]? = some (Jvm.Free.Multi.innerC (cA 0) M (defaultValue .int)) := fun j hj => by
    have := Jvm.Free.Multi.fill_inner (T.setVm vm₁) (cA 2) (cA 0) N M (defaultValue .int) N j hj
    rw [hF, hTh] at this
    exact this
  obtain ⟨τ, hτ⟩ : ∃ τ : zq_S, τ = fun a i => if a = (n : Int) then (if 0 ≤ i ∧ i < (N : Int) then (n : Int) + 1 + i else -1) else if (n : Int) < a ∧ a ≤ (n : Int) + N then 0 else σ a i := ⟨_, rfl⟩
  have t1 : ∀ i : Int, τ (n : Int) i = if 0 ≤ i ∧ i < (N : Int) then (n : Int) + 1 + i else -1 := fun i => by rw [hτ]; exact if_pos rfl
  have t2 : ∀ a i : Int, (n : Int) < a → a ≤ n + N → τ a i = 0 := fun a i h1 h2 => by
    rw [hτ]
    show (if a = (n : Int) then _ else if (n : Int) < a ∧ a ≤ (n : Int) + N then 0 else σ a i) = 0
    rw [if_neg (by omega), if_pos ⟨h1, h2⟩]
  have t3 : ∀ a i : Int, a < (n : Int) ∨ (n : Int) + N < a → τ a i = σ a i := fun a i h => by
    rw [hτ]
    show (if a = (n : Int) then _ else if (n : Int) < a ∧ a ≤ (n : Int) + N then 0 else σ a i) = σ a i
    rw [if_neg (by omega), if_neg (by omega)]
  have hP1 : va_P D zq_cl (zq_ws w cA b (n + 1 + N) τ) F.heap := by
    intro a q hq
    obtain ⟨ha, rfl⟩ := zq_at_inv hq
    by_cases h1 : a < n
    · have := (hP a _ (zq_at w cA b n σ h1)).kept (hold (b + a) (by omega))
      rw [show τ (a : Int) = σ a from funext fun i => t3 _ i (by omega)]
      exact this
    · by_cases h2 : a = n
      · subst h2
        rw [hw, zq_ent_ref]
        show F.heap[b + a]? = some (vp_cell _ _)
        rw [← hsz, f2, zq_outer, vp_cell_q]
        refine congrArg some (congrArg (arrV (cA 2) N) (funext fun j => ?_))
        rw [t1]
        by_cases hj : j < N
        · rw [if_pos hj, if_pos ⟨by omega, by omega⟩]
          simp only [zq_rf]
          rw [if_neg (by omega)]
          congr 2
          omega
        · rw [if_neg hj, if_neg (by omega)]
          rfl
      · obtain ⟨j, rfl⟩ : ∃ j, a = n + 1 + j := ⟨a - (n + 1), by omega⟩
        rw [hwr j (by omega), zq_ent_int]
        show F.heap[b + (n + 1 + j)]? = some (vp_cell _ _)
        rw [show b + (n + 1 + j) = H.size + 1 + j by omega, hrow j (by omega), vp_cell_i]
        show some ({ cls := cA 0, slots := Array.replicate M (defaultValue .int), vm := .none } : Cell) = _
        rw [arrV_new]
        refine congrArg some (congrArg (arrV (cA 0) M) (funext fun q => ?_))
        rw [t2 _ _ (by omega) (by omega)]
        rfl
  have hS1 : va_S (zq_A b n0 s.heap.size) s.heap F.heap locs := ⟨by rw [f1]; have := hS.1; omega, fun q h1 h2 => (hold q (by have := hS.1; omega)).trans (hS.2.1 q h1 h2), hS.2.2⟩
  have hk := k τ (fun i h0 h1 => by rw [t1, if_pos ⟨h0, h1⟩]) (fun i h => by rw [t1, if_neg h]) t2 t3 F.heap locs lsA ⟨by omega, hn1⟩ hP1 hS1 (by rw [f1, hz]; omega) hl
  rw [show n + 1 + N - n0 = n - n0 + 1 + N by omega, show zq_so w (n + 1 + N) - zq_so w n0 = zq_so w n - zq_so w n0 + N + N * M by omega] at hk
  obtain ⟨t, a1, b1⟩ := hk F rfl X'
  refine ⟨t, step t ?_, b1⟩
  have e9 : T.heap.size = b + n := by rw [hT]; exact hsz
  rw [e9]
  exact a1
end ZQMna
