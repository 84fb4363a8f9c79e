/-! ===== references that may be null; calls by the receiver's class; arrays of references; arraycopy ===== -/
def zq_nr (x : Int) : zq_Z := if x < 0 then ZN else ZR x
theorem zq_nr_n {x : Int} (h : x < 0) : zq_nr x = ZN := if_pos h
theorem zq_nr_p {x : Int} (h : ¬ x < 0) : zq_nr x = ZR x := if_neg h
def zq_pr (σ : zq_S) (P : Int → Prop) : Option zq_Z → zq_S → Prop := fun r τ => τ = σ ∧ ∃ x, r = some (zq_nr x) ∧ P x
theorem zq_S_tr {A : Nat → Prop} {H0 H H1 : Heap} {locs locs1 : List Loc} (h : va_S A H0 H locs) (h1 : va_S A H H1 locs1) : va_S A H0 H1 locs1 :=
  ⟨Nat.le_trans h.1 h1.1, fun q h2 h3 => (h1.2.1 q (Nat.lt_of_lt_of_le h2 h.1) h3).trans (h.2.1 q h2 h3), h1.2.2⟩
theorem zq_S_id {A : Nat → Prop} {H0 H : Heap} {locs : List Loc} (h : va_S A H0 H locs) : va_S A H H locs := ⟨Nat.le_refl _, fun _ _ _ => rfl, h.2.2⟩
theorem zq_sized {p : Program} {l : Launch} {e : Env} {R : Room} {s : State} {m : MethodId} {args : Array Value} {below : List Frame} {meth : Method} {c : Code} {H : Heap} {locs : List Loc} {cells slots : Nat} {Q : State → Prop} {g : JFrame} (h1 : s.heap.size + cells ≤ H.size) (k : H.size = s.heap.size + cells → W p l e R s m args below meth c H locs cells slots Q g) : W p l e R s m args below meth c H locs cells slots Q g := fun T hT X => k (by have := X.heapSize; rw [hT] at this; omega) T hT X
def zq_MU (own : String) (idx ci : Nat) (x y : MethodName) (cy : ByteArray) (ny : Nat) (rty : Option FieldType) (np : Nat) : Prop := GoodIn zq_tb (va_wsU own idx y.cls x.cls x y (Cond.code y cy ny rty :: zq_tb)) ∧ Cond.declares x ∈ zq_Xw ∧ (∃ (T : u_T) (N : Nat), zq_cl[ci]? = some (y.cls, T, N)) ∧ zq_hd x np
theorem zq_MU_of {own : String} {idx ci : Nat} {x y : MethodName} {cy : ByteArray} {ny : Nat} {rty : Option FieldType} {np : Nat} (T : u_T) (N : Nat) (h1 : Cond.methodLink own idx x ∈ zq_tb) (h2 : Cond.sameMethod x.cls x.cls x.name x.desc ∈ zq_tb) (h3 : Cond.selects y.cls x y ∈ zq_tb) (h4 : Cond.instanceMethod y ∈ zq_tb) (h5 : Cond.initialized y.cls ∈ zq_tb) (h6 : Cond.code y cy ny rty ∈ zq_tb) (h7 : Cond.declares x ∈ zq_Xw) (h8 : zq_cl[ci]? = some (y.cls, T, N)) (h9 : zq_hd x np) : zq_MU own idx ci x y cy ny rty np := by
  refine ⟨fun v hv => ?_, h7, ⟨T, N, h8⟩, h9⟩
  rcases List.mem_append.mp hv with hv | hv
  · refine zq_allgood _ ?_
    simp only [List.mem_cons, List.not_mem_nil, or_false] at hv
    rcases hv with rfl | rfl | rfl | rfl | rfl
    · exact h1
    · exact h2
    · exact h3
    · exact h4
    · exact h5
  · exact zq_good_code h6 v hv
section ZQCls
variable {w : zq_W} {own : String} {cc : ByteArray} {nL fr lo n0 n1 : Nat} {nm : String} {rt : Option FieldType} {Po : Option zq_Z → zq_S → Prop} {V : Nat → List (Option zq_Z) → List zq_Z → Nat → zq_S → Prop} {pc n : Nat} {ls : List (Option zq_Z)} {st : List zq_Z} {σ : zq_S}
theorem zr_aload_nQ (hV : zq_R w own cc nL fr lo n0 n1 nm rt Po V) {j : Fin 4} {i : Nat} {x : Int} (d : decode cc pc = .ok (.aload_n j, 1)) (hi : (j : Nat) = i) (hg : ls[i]? = some (some (zq_nr x))) (k : V (pc + 1) ls (zq_nr x :: st) n σ) : V pc ls st n σ := by
  by_cases h : x < 0
  · rw [zq_nr_n h] at hg k; exact zr_aload_nN hV d hi hg k
  · rw [zq_nr_p h] at hg k; exact zr_aload_n hV d hi hg k
theorem zr_aloadQ (hV : zq_R w own cc nL fr lo n0 n1 nm rt Po V) {i : Nat} {x : Int} (d : decode cc pc = .ok (.aload i, 2)) (hg : ls[i]? = some (some (zq_nr x))) (k : V (pc + 2) ls (zq_nr x :: st) n σ) : V pc ls st n σ := by
  by_cases h : x < 0
  · rw [zq_nr_n h] at hg k; exact zr_aloadN hV d hg k
  · rw [zq_nr_p h] at hg k; exact zr_aload hV d hg k
theorem zr_astore_nQ (hV : zq_R w own cc nL fr lo n0 n1 nm rt Po V) (ls2 : List (Option zq_Z)) {j : Fin 4} {i : Nat} {x : Int} (d : decode cc pc = .ok (.astore_n j, 1)) (hi : (j : Nat) = i) (hn : i < nL) (hno : zq_nol ls i = true) (hs : ls.set i (some (zq_nr x)) = ls2) (k : V (pc + 1) ls2 st n σ) : V pc ls (zq_nr x :: st) n σ := by
  by_cases h : x < 0
  · rw [zq_nr_n h] at hs ⊢; exact zr_astore_nN hV ls2 d hi hn hno hs k
  · rw [zq_nr_p h] at hs ⊢; exact zr_astore_n hV ls2 d hi hn hno hs k
theorem zr_astoreQ (hV : zq_R w own cc nL fr lo n0 n1 nm rt Po V) (ls2 : List (Option zq_Z)) {i : Nat} {x : Int} (d : decode cc pc = .ok (.astore i, 2)) (hn : i < nL) (hno : zq_nol ls i = true) (hs : ls.set i (some (zq_nr x)) = ls2) (k : V (pc + 2) ls2 st n σ) : V pc ls (zq_nr x :: st) n σ := by
  by_cases h : x < 0
  · rw [zq_nr_n h] at hs ⊢; exact zr_astoreN hV ls2 d hn hno hs k
  · rw [zq_nr_p h] at hs ⊢; exact zr_astore hV ls2 d hn hno hs k
theorem zr_aretN (hV : zq_R w own cc nL fr lo n0 n1 nm rt Po V) {C : String} (d : decode cc pc = .ok (.areturn, 1)) (hr : rt = some (.object C)) (hn : n = n1) (k : Po (some (zq_nr (-1))) σ) : V pc ls [ZN] n σ := zr_aret hV d hr (Or.inl ⟨_, rfl⟩) (Or.inl rfl) hn k
theorem zr_aretR (hV : zq_R w own cc nL fr lo n0 n1 nm rt Po V) {C : String} {x : Int} (d : decode cc pc = .ok (.areturn, 1)) (hr : rt = some (.object C)) (hn : n = n1) (h : 0 ≤ x) (k : Po (some (zq_nr x)) σ) : V pc ls [ZR x] n σ := zr_aret hV d hr (Or.inl ⟨_, rfl⟩) (Or.inr ⟨_, rfl⟩) hn (by rw [zq_nr_p (show ¬ x < 0 by omega)] at k; exact k)
theorem zr_aretQ (hV : zq_R w own cc nL fr lo n0 n1 nm rt Po V) {C : String} {x : Int} (d : decode cc pc = .ok (.areturn, 1)) (hr : rt = some (.object C)) (hn : n = n1) (k : Po (some (zq_nr x)) σ) : V pc ls [zq_nr x] n σ := zr_aret hV d hr (Or.inl ⟨_, rfl⟩) (by unfold zq_nr; split; exact Or.inl rfl; exact Or.inr ⟨_, rfl⟩) hn k
theorem zr_callVr (hV : zq_R w own cc nL fr lo n0 n1 nm rt Po V) {a : Int} (As : List zq_Z) {y : MethodName} {cy : ByteArray} {ny : Nat} {rty : Option FieldType} {fry loy idx ci : Nat} {P : Int → Prop} (hC : zq_C w y cy ny rty fry loy n n (ZR a :: As) σ (zq_pr σ P)) (d : decode cc pc = .ok (.invokevirtual idx, 3)) (hM : zq_MV own idx ci y cy ny rty As.length) (hk : w.2 (w.1 a) = .inr ci) (h0 : 0 ≤ a ∧ a < n) (hroom : fry + 1 ≤ fr ∧ 8 + (ny + 11) + loy ≤ lo) (hst : st.length ≤ 4) (hn : n ≤ n1)
    (k : ∀ x, P x → V (pc + 3) ls (zq_nr x :: st) n σ) : V pc ls (As.reverse ++ ZR a :: st) n σ := by
  refine zr_callV hV As hC d hM hk h0 hroom hst ⟨Nat.le_refl _, hn⟩ ?_
  rintro r σ' ⟨rfl, x, rfl, hp⟩
  exact k x hp
theorem zr_callU (hV : zq_R w own cc nL fr lo n0 n1 nm rt Po V) {a : Int} (As : List zq_Z) {x y : MethodName} {cy : ByteArray} {ny : Nat} {rty : Option FieldType} {fry loy n' idx ci : Nat} {Po' : Option zq_Z → zq_S → Prop} (hC : zq_C w y cy ny rty fry loy n n' (ZR a :: As) σ Po') (d : decode cc pc = .ok (.invokevirtual idx, 3)) (hM : zq_MU own idx ci x y cy ny rty As.length) (hk : w.2 (w.1 a) = .inr ci) (h0 : 0 ≤ a ∧ a < n) (hroom : fry + 1 ≤ fr ∧ 8 + (ny + 11) + loy ≤ lo) (hst : st.length ≤ 4) (hn : n ≤ n' ∧ n' ≤ n1)
    (k : ∀ r σ', Po' r σ' → V (pc + 3) ls (r.toList ++ st) n' σ') : V pc ls (As.reverse ++ ZR a :: st) n σ := by
  obtain ⟨p, l, e, s, m, args, below, meth, c, D, cA, b, hx, hb, hml, hown, hts, hK, hbs, hal, hrt, hlk, hnm, hXw, rfl⟩ := hV
  intro H locs lsA hnn hP hS hz hl
  obtain ⟨hG, hdec, ⟨T, N, hc⟩, hd⟩ := hM
  obtain ⟨a', rfl⟩ := Int.eq_ofNat_of_zero_le h0.1
  have he := zq_at w cA b n σ (a := a') (by omega)
  rw [hk, zq_ent_obj] at he
  have hm1 := zq_so_le w hnn.1
  have hm2 := zq_so_le w hn.1
  have hm3 := zq_so_le w hn.2
  refine zq_after hal hnn hn hS hz hl (va_runU (As := As.map (zq_val b)) (b := b + a') (rest := st.map (zq_val b)) ⟨hx, hb, hml, hown, hts⟩ (hC l D cA b H.size) (va_cwA (C := y.cls) (owner := x.cls) (x := x) As.length hts hG rfl rfl rfl (hXw _ hdec) hd hroom) ⟨zq_blind, va_recv hK hP (ci := ci) (q0 := a') hc he, fun U hU hW => ⟨rfl, by rw [hU], by have := hS.1; omega, fun h => by have := hal (by omega); omega, by rw [hU]; exact hP, va_K.moved hW.alike hK, zq_X_warm hW hXw⟩⟩ rfl (by simp) hl.1 ?_ (lv_room (zq_room hst)) d ⟨by show n - n0 + (n' - n) ≤ n1 - n0; omega, by show zq_so w n - zq_so w n0 + (zq_so w n' - zq_so w n) ≤ zq_so w n1 - zq_so w n0; omega⟩) k
  show (As.reverse ++ ZR a' :: st).map (zq_val b) = _
  simp [zq_val]
theorem zr_callUp (hV : zq_R w own cc nL fr lo n0 n1 nm rt Po V) {a : Int} (As : List zq_Z) {x y : MethodName} {cy : ByteArray} {ny : Nat} {rty : Option FieldType} {fry loy idx ci : Nat} {P : Int → Prop} (hC : zq_C w y cy ny rty fry loy n n (ZR a :: As) σ (zq_pp σ P)) (d : decode cc pc = .ok (.invokevirtual idx, 3)) (hM : zq_MU own idx ci x y cy ny rty As.length) (hk : w.2 (w.1 a) = .inr ci) (h0 : 0 ≤ a ∧ a < n) (hroom : fry + 1 ≤ fr ∧ 8 + (ny + 11) + loy ≤ lo) (hst : st.length ≤ 4) (hn : n ≤ n1)
    (k : ∀ x, zq_in x → P x → V (pc + 3) ls (ZI x :: st) n σ) : V pc ls (As.reverse ++ ZR a :: st) n σ := by
  refine zr_callU hV As hC d hM hk h0 hroom hst ⟨Nat.le_refl _, hn⟩ ?_
  rintro r σ' ⟨rfl, x, rfl, hx, hp⟩
  exact k x hx hp
theorem zr_callUi (hV : zq_R w own cc nL fr lo n0 n1 nm rt Po V) {a : Int} (As : List zq_Z) {x y : MethodName} {cy : ByteArray} {ny : Nat} {rty : Option FieldType} {fry loy idx ci : Nat} {P : Int → zq_S → Prop} (hC : zq_C w y cy ny rty fry loy n n (ZR a :: As) σ (zq_pi P)) (d : decode cc pc = .ok (.invokevirtual idx, 3)) (hM : zq_MU own idx ci x y cy ny rty As.length) (hk : w.2 (w.1 a) = .inr ci) (h0 : 0 ≤ a ∧ a < n) (hroom : fry + 1 ≤ fr ∧ 8 + (ny + 11) + loy ≤ lo) (hst : st.length ≤ 4) (hn : n ≤ n1)
    (k : ∀ x τ, zq_in x → P x τ → V (pc + 3) ls (ZI x :: st) n τ) : V pc ls (As.reverse ++ ZR a :: st) n σ := by
  refine zr_callU hV As hC d hM hk h0 hroom hst ⟨Nat.le_refl _, hn⟩ ?_
  rintro r σ' ⟨x, rfl, hx, hp⟩
  exact k x σ' hx hp
theorem zr_callUv (hV : zq_R w own cc nL fr lo n0 n1 nm rt Po V) {a : Int} (As : List zq_Z) {x y : MethodName} {cy : ByteArray} {ny : Nat} {rty : Option FieldType} {fry loy idx ci : Nat} {P : zq_S → Prop} (hC : zq_C w y cy ny rty fry loy n n (ZR a :: As) σ (zq_pv P)) (d : decode cc pc = .ok (.invokevirtual idx, 3)) (hM : zq_MU own idx ci x y cy ny rty As.length) (hk : w.2 (w.1 a) = .inr ci) (h0 : 0 ≤ a ∧ a < n) (hroom : fry + 1 ≤ fr ∧ 8 + (ny + 11) + loy ≤ lo) (hst : st.length ≤ 4) (hn : n ≤ n1)
    (k : ∀ τ, P τ → V (pc + 3) ls st n τ) : V pc ls (As.reverse ++ ZR a :: st) n σ := by
  refine zr_callU hV As hC d hM hk h0 hroom hst ⟨Nat.le_refl _, hn⟩ ?_
  rintro r σ' ⟨rfl, hp⟩
  exact k σ' hp
/-- an Order into an array of Orders -/
theorem zr_aast (hV : zq_R w own cc nL fr lo n0 n1 nm rt Po V) {a i x : Int} {len : Nat} (d : decode cc pc = .ok (.aastore, 1)) (hk : w.2 (w.1 a) = .inl (1, len)) (hk3 : w.2 (w.1 x) = .inr 3) (h0 : 0 ≤ a ∧ a < n) (h1 : 0 ≤ x ∧ x < n) (hn : Nat.ble len 40000 = true) (hi : 0 ≤ i ∧ i < len) (k : ∀ τ, τ = zq_up σ a i x → V (pc + 1) ls st n τ) : V pc ls (ZR x :: ZI i :: ZR a :: st) n σ := by
  obtain ⟨p, l, e, s, m, args, below, meth, c, D, cA, b, hx, hb, hml, hown, hts, hK, hbs, hal, hrt, hlk, hnm, hXw, rfl⟩ := hV
  intro H locs lsA hnn hP hS hz hl
  have hn := Nat.le_of_ble_eq_true hn
  have hvin : vp_in (Int32.ofInt i) len := zq_vin hi.1 hi.2 (by omega)
  obtain ⟨a', rfl⟩ := Int.eq_ofNat_of_zero_le h0.1
  obtain ⟨x', rfl⟩ := Int.eq_ofNat_of_zero_le h1.1
  have ha' : a' < n := by omega
  have he := zq_at w cA b n σ (a := a') ha'
  rw [hk, zq_ent_ref] at he
  have hex := zq_at w cA b n σ (a := x') (by omega)
  rw [hk3, zq_ent_obj] at hex
  have hD := zq_D w cA b n σ (zq_A b n0 s.heap.size) (zq_nn hal hnn)
  have hic : (Int32.ofInt i).toNatClampNeg = i.toNat := zq_clamp ⟨by omega, by omega⟩
  have hset : (zq_ws w cA b n σ).set a' (b + a', .inl (cA 1, len, .inr (.inr (.inr (.inr (va_up (fun j => zq_rf b (σ a' j)) i.toNat (some (b + x')))))))) = zq_ws w cA b n (zq_up σ a' i x') := by
    rw [← zq_cell_up, ← zq_ws_set w cA b n σ ha', hk, zq_ent_ref, zq_up_row]
    congr 9
    funext j
    by_cases hj : j = i.toNat
    · subst hj
      simp [va_up, show ((i.toNat : Nat) : Int) = i by omega, zq_rf, show ¬ ((x' : Int) < 0) by omega]
    · have : ¬ (j : Int) = i := by omega
      simp [va_up, hj, this]
  refine va_astq hx hb hK hP hD (zq_S_id hS) a' 1 x' 3 he (r := (RX3, TX3, _)) (rfl : (zq_tys cA)[1]? = some (cA 1, .object RX3)) hex rfl hvin d fun H1 locs1 hP1 hD1 hS1 => ?_
  rw [hic, hset] at hP1
  refine zq_sized (by have := hS1.1; omega) fun hz1 => ?_
  exact k _ rfl H1 locs1 lsA hnn hP1 (zq_S_tr hS hS1) hz1 hl
/-- System.arraycopy of ints -/
theorem zr_copy (hV : zq_R w own cc nL fr lo n0 n1 nm rt Po V) {a0 a1 sp dp q : Int} {l0 l1 idx : Nat} (d : decode cc pc = .ok (.invokestatic idx, 3)) (hlink : Cond.methodLink own idx arraycopyName ∈ zq_tb) (hnat : Cond.native arraycopyName ∈ zq_tb) (hstat : Cond.static arraycopyName ∈ zq_tb) (hini : Cond.initialized "java/lang/System" ∈ zq_tb) (hk0 : w.2 (w.1 a0) = .inl (0, l0)) (hk1 : w.2 (w.1 a1) = .inl (0, l1)) (h0 : 0 ≤ a0 ∧ a0 < n) (h1 : 0 ≤ a1 ∧ a1 < n) (hn0 : Nat.ble l0 40000 = true) (hn1 : Nat.ble l1 40000 = true) (hsp : 0 ≤ sp ∧ sp + q ≤ l0) (hdp : 0 ≤ dp ∧ dp + q ≤ l1) (hq : 0 ≤ q) (hfr : Nat.ble 1 fr = true) (hlo : Nat.ble 60 lo = true)
    (k : ∀ τ, τ = zq_cell σ a1 (fun i => if dp ≤ i ∧ i < dp + q then σ a0 (sp + (i - dp)) else σ a1 i) → V (pc + 3) ls [] n τ) : V pc ls [ZI q, ZI dp, ZR a1, ZI sp, ZR a0] n σ := by
  obtain ⟨p, l, e, s, m, args, below, meth, c, D, cA, b, hx, hb, hml, hown, hts, hK, hbs, hal, hrt, hlk, hnm, hXw, rfl⟩ := hV
  intro H locs lsA hnn hP hS hz hl
  have hn0 := Nat.le_of_ble_eq_true hn0
  have hn1 := Nat.le_of_ble_eq_true hn1
  have hfr := Nat.le_of_ble_eq_true hfr
  have hlo := Nat.le_of_ble_eq_true hlo
  obtain ⟨a0', rfl⟩ := Int.eq_ofNat_of_zero_le h0.1
  obtain ⟨a1', rfl⟩ := Int.eq_ofNat_of_zero_le h1.1
  have ha1 : a1' < n := by omega
  have he0 := zq_at w cA b n σ (a := a0') (by omega)
  rw [hk0, zq_ent_int] at he0
  have he1 := zq_at w cA b n σ (a := a1') ha1
  rw [hk1, zq_ent_int] at he1
  have hD := zq_D w cA b n σ (zq_A b n0 s.heap.size) (zq_nn hal hnn)
  have e1 : nativeFrameWords "java/lang/System" "arraycopy" 5 + 11 ≤ 60 := by decide
  have is : zq_in sp := ⟨by omega, by omega⟩
  have id : zq_in dp := ⟨by omega, by omega⟩
  have iq : zq_in q := ⟨by omega, by omega⟩
  have cs := zq_clamp is
  have cd := zq_clamp id
  have cq := zq_clamp iq
  have hset : (zq_ws w cA b n σ).set a1' (b + a1', .inl (cA 0, l1, .inl (va_cpy (fun j => Int32.ofInt (σ a0' j)) (fun j => Int32.ofInt (σ a1' j)) sp.toNat dp.toNat q.toNat))) = zq_ws w cA b n (zq_cell σ a1' (fun i => if dp ≤ i ∧ i < dp + q then σ a0' (sp + (i - dp)) else σ a1' i)) := by
    rw [← zq_ws_set w cA b n σ ha1, hk1, zq_ent_int]
    congr 6
    funext j
    by_cases hj : dp.toNat ≤ j ∧ j < dp.toNat + q.toNat
    · have h2 : dp ≤ (j : Int) ∧ (j : Int) < dp + q := ⟨by omega, by omega⟩
      have h3 : ((sp.toNat + (j - dp.toNat) : Nat) : Int) = sp + ((j : Int) - dp) := by omega
      simp only [va_cpy, if_pos hj, if_pos h2, h3]
    · have h2 : ¬ (dp ≤ (j : Int) ∧ (j : Int) < dp + q) := fun h => hj ⟨by omega, by omega⟩
      simp only [va_cpy, if_neg hj, if_neg h2]
  refine va_copyi hx hb (by rw [hml]; exact hl.1.symm) hown (hts _ hlink) (hts _ hnat) (hts _ hstat) (hts _ hini) hK hP hD (zq_S_id hS) a0' a1' 0 0 he0 he1 (rfl : (zq_tys cA)[0]? = some (cA 0, .int)) (rfl : (zq_tys cA)[0]? = some (cA 0, .int)) rfl (by rw [zq_0I, zq_ltI is ⟨by omega, by omega⟩]; omega) (by rw [zq_0I, zq_ltI id ⟨by omega, by omega⟩]; omega) (by rw [zq_0I, zq_ltI iq ⟨by omega, by omega⟩]; omega) (by rw [cs, cq]; omega) (by rw [cd, cq]; omega) (fun i _ => rfl) hfr (show (((([] : List zq_Z).map (zq_val b)).map fun v => v.category).sum) + (nativeFrameWords "java/lang/System" "arraycopy" 5 + 11) ≤ lo from by rw [List.map_nil, List.map_nil, List.sum_nil, Nat.zero_add]; exact Nat.le_trans e1 hlo) d fun H1 locs1 hP1 hD1 hS1 => ?_
  rw [cs, cd, cq, hset] at hP1
  refine zq_sized (by have := hS1.1; omega) fun hz1 => ?_
  exact k _ rfl H1 locs1 lsA hnn hP1 (zq_S_tr hS hS1) hz1 hl
end ZQCls
