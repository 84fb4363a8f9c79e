/-! ===== constructors called; arrays of references made ===== -/
def zq_MI (own : String) (idx : Nat) (y : MethodName) (cy : ByteArray) (ny np : Nat) : Prop := Cond.code y cy ny none ∈ zq_tb ∧ Cond.initialized y.cls ∈ zq_tb ∧ Cond.methodLink own idx y ∈ zq_tb ∧ Cond.instanceMethod y ∈ zq_tb ∧ y.name = "<init>" ∧ zq_hd y np
def zq_MN (own : String) (idx : Nat) (y : MethodName) (cy : ByteArray) (ny np : Nat) : Prop := Cond.code y cy ny none ∈ zq_tb ∧ Cond.initialized y.cls ∈ zq_tb ∧ Cond.methodLinkNest own idx y RX11 ∈ zq_Xw ∧ Cond.instanceMethod y ∈ zq_tb ∧ y.name = "<init>" ∧ zq_hd y np
section ZQCtor
variable {w : zq_W} {own : String} {cc : ByteArray} {nL fr lo n0 n1 : Nat} {nm : String} {rt : Option FieldType} {Po : Option zq_Z → zq_S → Prop} {V : Nat → List (Option zq_Z) → List zq_Z → Nat → zq_S → Prop} {pc n : Nat} {ls : List (Option zq_Z)} {st : List zq_Z} {σ : zq_S}
theorem zr_callI (hV : zq_R w own cc nL fr lo n0 n1 nm rt Po V) {a : Int} (As : List zq_Z) {y : MethodName} {cy : ByteArray} {ny fry loy n' idx : Nat} {P : zq_S → Prop} (hC : zq_C w y cy ny none fry loy n n' (ZR a :: As) σ (zq_pv P)) (d : decode cc pc = .ok (.invokespecial idx, 3)) (hM : zq_MI own idx y cy ny As.length) (hroom : fry + 1 ≤ fr ∧ 8 + (ny + 11) + loy ≤ lo) (hst : st.length ≤ 4) (hn : n ≤ n' ∧ n' ≤ n1)
    (k : ∀ τ, P τ → V (pc + 3) ls st n' τ) : V pc ls (As.reverse ++ ZR a :: st) n σ := by
  obtain ⟨p, l, e, s, m, args, below, meth, c, D, cA, b, hx, hb, hml, hown, hts, hK, hbs, hal, hrt, hlk, hnm, hXw, rfl⟩ := hV
  intro H locs lsA hnn hP hS hz hl
  obtain ⟨hcd, hini, hlink, hins, hy1, hd⟩ := hM
  have hm1 := zq_so_le w hnn.1
  have hm2 := zq_so_le w hn.1
  have hm3 := zq_so_le w hn.2
  refine zq_after hal hnn hn hS hz hl (va_runI (As := As.map (zq_val b)) (b := b + a.toNat) (rest := st.map (zq_val b)) ⟨hx, hb, hml, hown, hts⟩ (hC l D cA b H.size) ⟨callB_of As.length hts (zq_good_code hcd) rfl rfl rfl (hts _ hini) (hts _ hlink) hd hroom, hy1, hts _ hins⟩ ⟨zq_blind, fun U hU hW => ⟨rfl, by rw [hU], by have := hS.1; omega, fun h => by have := hal (by omega); omega, by rw [hU]; exact hP, va_K.moved hW.alike hK, zq_X_warm hW hXw⟩⟩ rfl (by simp) hl.1 ?_ (lv_room (zq_room hst)) d ⟨by show n - n0 + (n' - n) ≤ n1 - n0; omega, by show zq_so w n - zq_so w n0 + (zq_so w n' - zq_so w n) ≤ zq_so w n1 - zq_so w n0; omega⟩) ?_
  · show (As.reverse ++ ZR a :: st).map (zq_val b) = _
    simp [zq_val]
  · rintro r σ' ⟨rfl, hp⟩
    exact k σ' hp
theorem zr_callN (hV : zq_R w own cc nL fr lo n0 n1 nm rt Po V) {a : Int} (As : List zq_Z) {y : MethodName} {cy : ByteArray} {ny fry loy n' idx : Nat} {P : zq_S → Prop} (hC : zq_C w y cy ny none fry loy n n' (ZR a :: As) σ (zq_pv P)) (d : decode cc pc = .ok (.invokespecial idx, 3)) (hM : zq_MN own idx y cy ny As.length) (hroom : fry + 1 ≤ fr ∧ 8 + (ny + 11) + loy ≤ lo) (hst : st.length ≤ 4) (hn : n ≤ n' ∧ n' ≤ n1)
    (k : ∀ τ, P τ → V (pc + 3) ls st n' τ) : V pc ls (As.reverse ++ ZR a :: st) n σ := by
  obtain ⟨p, l, e, s, m, args, below, meth, c, D, cA, b, hx, hb, hml, hown, hts, hK, hbs, hal, hrt, hlk, hnm, hXw, rfl⟩ := hV
  intro H locs lsA hnn hP hS hz hl
  obtain ⟨hcd, hini, hlink, hins, hy1, hd⟩ := hM
  have hm1 := zq_so_le w hnn.1
  have hm2 := zq_so_le w hn.1
  have hm3 := zq_so_le w hn.2
  refine zq_after hal hnn hn hS hz hl (va_runIN (As := As.map (zq_val b)) (b := b + a.toNat) (rest := st.map (zq_val b)) ⟨hx, hb, hml, hown, hts⟩ (hC l D cA b H.size) ⟨va_cnB As.length hts (zq_good_code hcd) rfl rfl rfl (hXw _ hlink) (hts _ hini) hd hroom, hy1, hts _ hins⟩ ⟨zq_blind, fun U hU hW => ⟨rfl, by rw [hU], by have := hS.1; omega, fun h => by have := hal (by omega); omega, by rw [hU]; exact hP, va_K.moved hW.alike hK, zq_X_warm hW hXw⟩⟩ rfl (by simp) hl.1 ?_ (lv_room (zq_room hst)) d ⟨by show n - n0 + (n' - n) ≤ n1 - n0; omega, by show zq_so w n - zq_so w n0 + (zq_so w n' - zq_so w n) ≤ zq_so w n1 - zq_so w n0; omega⟩) ?_
  · show (As.reverse ++ ZR a :: st).map (zq_val b) = _
    simp [zq_val]
  · rintro r σ' ⟨rfl, hp⟩
    exact k σ' hp
/-- a new array of Orders -/
theorem zr_anew (hV : zq_R w own cc nL fr lo n0 n1 nm rt Po V) {x : Int} {idx : Nat} (len : Nat) (d : decode cc pc = .ok (.anewarray idx, 3)) (hxl : x = (len : Int)) (hlen : Nat.ble len 40000 = true) (hcl : Cond.classLink own idx RX3 ∈ zq_tb) (hw : w.2 (w.1 (n : Int)) = .inl (1, len)) (hn1 : n < n1) (k : ∀ τ, τ = zq_cell σ (n : Int) (fun _ => -1) → V (pc + 3) ls (ZR (n : Int) :: st) (n + 1) τ) : V pc ls (ZI x :: st) n σ := by
  obtain ⟨p, l, e, s, m, args, below, meth, c, D, cA, b, hx, hb, hml, hown, hts, hK, hbs, hal, hrt, hlk, hnm, hXw, rfl⟩ := hV
  intro H locs lsA hnn hP hS hz hl
  have hlen := Nat.le_of_ble_eq_true hlen
  have hsz : H.size = b + n := by have := hal (by omega); omega
  have hso : zq_so w (n + 1) = zq_so w n + len := by show zq_so w n + zq_sz (w.2 (w.1 (n : Int))) = _; rw [hw]; rfl
  have hm1 := zq_so_le w hnn.1
  have hm2 := zq_so_le w (show n + 1 ≤ n1 by omega)
  have hin : zq_in x := ⟨by omega, by omega⟩
  have hc : (Int32.ofInt x).toNatClampNeg = len := by rw [zq_clamp hin]; omega
  refine W.anew (g := F0 m pc lsA (.int (Int32.ofInt x) :: st.map (zq_val b))) hx hb hown (hts _ hcl) (va_AO.use (hXw (.arrayOver (.object RX3)) (by decide +kernel))) rfl d rfl (by rw [zq_0I, zq_ltI hin ⟨by omega, by omega⟩]; omega) (by rw [hc]; omega) (by show n - n0 + 1 ≤ n1 - n0; omega) (by rw [hc]; show zq_so w n - zq_so w n0 + len ≤ zq_so w n1 - zq_so w n0; omega) fun cX kA comp f1 f2 f3 f4 => ?_
  obtain ⟨kA2, comp2, -, -, -, g4⟩ := (hK.2 1 _ (rfl : (zq_tys cA)[1]? = some (cA 1, .object RX3))).2
  have hcx : cX = cA 1 := Option.some.inj (f1.symm.trans g4)
  subst hcx
  rw [hc]
  generalize hH1 : H.push ({ cls := cA 1, slots := Array.replicate len .null, vm := .none } : Cell) = H1
  have z1 : H1.size = H.size + 1 := by rw [← hH1, Array.size_push]
  have e1 : H1[H.size]? = some (arrV (cA 1) len (fun _ => .null)) := by rw [← hH1, Array.getElem?_push_size, ← arrV_new]
  have o1 : ∀ q : Nat, q < H.size → H1[q]? = H[q]? := fun q hq => by rw [← hH1, Array.getElem?_push, if_neg (Nat.ne_of_lt hq)]
  have hP1 : va_P D zq_cl (zq_ws w cA b (n + 1) (zq_cell σ (n : Int) (fun _ => -1))) H1 := by
    intro a q hq
    obtain ⟨ha, rfl⟩ := zq_at_inv hq
    by_cases hc2 : a = n
    · subst hc2
      rw [hw, zq_ent_ref]
      show H1[b + a]? = some (vp_cell _ _)
      rw [← hsz, e1, vp_cell_q]
      simp only [zq_cell, if_true]
      rfl
    · have ha2 : a < n := by omega
      have := (hP a _ (zq_at w cA b n σ ha2)).kept (o1 (b + a) (by omega))
      have hne : ((a : Nat) : Int) ≠ (n : Int) := by omega
      rw [show zq_cell σ (n : Int) (fun _ => -1) (a : Int) = σ a from if_neg hne]
      exact this
  have hS1 : va_S (zq_A b n0 s.heap.size) s.heap H1 locs := ⟨by have := hS.1; omega, fun q h1 h2 => (o1 q (by have := hS.1; omega)).trans (hS.2.1 q h1 h2), hS.2.2⟩
  have hk := k _ rfl H1 locs lsA ⟨by omega, by omega⟩ hP1 hS1 (by rw [z1, hz]; omega) hl
  rw [show n + 1 - n0 = n - n0 + 1 by omega, show zq_so w (n + 1) - zq_so w n0 = zq_so w n - zq_so w n0 + len by omega] at hk
  rw [hsz]
  exact hk
/-- new int[n][m]: the rows lie behind -/
theorem zr_mna (hV : zq_R w own cc nL fr lo n0 n1 nm rt Po V) {x y : Int} {idx : Nat} (N M : Nat) (d : decode cc pc = .ok (.multianewarray idx 2, 4)) (hxl : x = (N : Int)) (hyl : y = (M : Int)) (hN : Nat.ble N 1000 = true) (hM : Nat.ble M 1000 = true) (hcl : Cond.classLink own idx "[[I" ∈ zq_tb) (harr : Cond.arrayClass .int ∈ zq_tb) (hw : w.2 (w.1 (n : Int)) = .inl (2, N)) (hwr : ∀ j : Nat, j < N → w.2 (w.1 (((n + 1 + j : Nat)) : Int)) = .inl (0, M)) (hn1 : n + 1 + N ≤ n1) (k : ∀ τ : zq_S, (∀ i : Int, 0 ≤ i → i < N → τ (n : Int) i = (n : Int) + 1 + i) → (∀ i : Int, ¬ (0 ≤ i ∧ i < N) → τ (n : Int) i = -1) → (∀ a i : Int, (n : Int) < a → a ≤ n + N → τ a i = 0) → (∀ a i : Int, a < (n : Int) ∨ (n : Int) + N < a → τ a i = σ a i) → V (pc + 4) ls (ZR (n : Int) :: st) (n + 1 + N) τ) : V pc ls (ZI y :: ZI x :: st) n σ := by
  sorry
end ZQCtor
