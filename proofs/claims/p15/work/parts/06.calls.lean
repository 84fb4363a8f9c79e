/-! ===== contracts and calls ===== -/
theorem zq_allgood : GoodIn zq_tb zq_tb := fun q hq => ⟨hq, good_of_word (List.mem_filter.mp hq).2⟩
def zq_loc : List zq_Z → List (Option zq_Z)
  | [] => []
  | v :: r => match v with
    | Sum.inr (Sum.inl x) => some (ZL x) :: none :: zq_loc r
    | u => some u :: zq_loc r
theorem zq_ll_none (b : Nat) : ∀ (k i : Nat), zq_ll b i (List.replicate k none) = []
  | 0, _ => rfl
  | k + 1, i => by rw [List.replicate_succ]; exact zq_ll_none b k (i + 1)
theorem zq_ll_loc (b k : Nat) : ∀ (As : List zq_Z) (i : Nat), zq_ll b i (zq_loc As ++ List.replicate k none) = lv_args i (As.map (zq_val b))
  | [], i => by simp [zq_loc, zq_ll_none, lv_args]
  | v :: r, i => by
    rcases v with x | x | (_ | x)
    · have := zq_ll_loc b k r (i + 1)
      simpa [zq_loc, zq_ll, lv_args, zq_val, Value.category] using this
    · have := zq_ll_loc b k r (i + 2)
      simpa [zq_loc, zq_ll, lv_args, zq_val, Value.category] using this
    · have := zq_ll_loc b k r (i + 1)
      simpa [zq_loc, zq_ll, lv_args, zq_val, Value.category] using this
    · have := zq_ll_loc b k r (i + 1)
      simpa [zq_loc, zq_ll, lv_args, zq_val, Value.category] using this
theorem zq_loc_len (b : Nat) : ∀ As : List zq_Z, (lg_sl (As.map (zq_val b))).length = (zq_loc As).length
  | [] => rfl
  | v :: r => by
    have := zq_loc_len b r
    rcases v with x | x | (_ | x) <;> simp [lg_sl, zq_loc, zq_val, Value.category] at this ⊢ <;> omega
/-- method y's contract over the store: from the arguments As and the store σ it returns, with Po; cells n0 .. n1 come -/
def zq_C (w : zq_W) (y : MethodName) (cy : ByteArray) (ny : Nat) (rt : Option FieldType) (fr lo n0 n1 : Nat) (As : List zq_Z) (σ : zq_S) (Po : Option zq_Z → zq_S → Prop) : Prop :=
  ∀ (l : Launch) (D : va_G) (cA : Nat → ClassId) (b sz : Nat), Met l y (Cond.code y cy ny rt :: zq_tb) (zq_rm w n0 n1 fr lo)
    (va_Pc (As.map (zq_val b)) (fun U => U.heap.size = sz ∧ b ≤ sz ∧ (n0 < n1 → sz = b + n0) ∧ va_P D zq_cl (zq_ws w cA b n0 σ) U.heap ∧ va_K D zq_cl (zq_tys cA) U ∧ zq_X U))
    (zq_Q D cA w b n0 n1 Po (zq_A b n0 sz)) (n1 - n0) (zq_so w n1 - zq_so w n0) (zq_A b n0 sz)
theorem zq_C_of {w : zq_W} {y : MethodName} {cy : ByteArray} {ny : Nat} {rt : Option FieldType} {fr lo n0 n1 : Nat} {As : List zq_Z} {σ : zq_S} {Po : Option zq_Z → zq_S → Prop} (hy : plainName y.cls = true) (h01 : n0 ≤ n1) (hlen : (zq_loc As).length ≤ ny) (ls : List (Option zq_Z)) (hls : zq_loc As ++ List.replicate (ny - (zq_loc As).length) none = ls)
    (body : ∀ V, zq_R w y.cls cy ny fr lo n0 n1 y.name rt Po V → V 0 ls [] n0 σ) : zq_C w y cy ny rt fr lo n0 n1 As σ Po := by
  intro l D cA b sz
  refine Met.ofW (cc := cy) (maxL := ny) (ret := rt) hy rfl ?_
  intro p e s m args below meth c s₁ B hml hv
  obtain ⟨rfl, hsz, hbs, hal, hP, hK, hXw⟩ := hv
  subst hsz
  have hts := atoms_spec (ws := Cond.code y cy ny rt :: zq_tb) B.pre
  have hown : s.vm.findClass y.cls = some m.cls := findClass_of_methodNamed B.named
  have hnm : meth.name = y.name := (name_of_methodNamed B.named B.method).1
  have hl := lv_entry (As.map (zq_val b)) (n := ny) (by rw [zq_loc_len]; exact hlen)
  rw [lg_entry_eq]
  generalize (lg_sl (As.map (zq_val b)) ++ List.replicate (ny - (lg_sl (As.map (zq_val b))).length) Slot.unset).toArray = lsA at hl ⊢
  rw [← zq_ll_loc b (ny - (zq_loc As).length) As 0, hls] at hl
  have hk := body _ ⟨p, l, e, s, m, _, below, meth, c, D, cA, b, B.exec, B.bytes, hml, hown, fun q hq => hts q (List.mem_cons_of_mem _ hq), hK, hbs, hal, B.returns, B.notSynchronized, hnm, hXw, rfl⟩ s.heap [] lsA ⟨Nat.le_refl _, h01⟩ hP va_S.rf (by omega) hl
  rw [Nat.sub_self, Nat.sub_self] at hk
  exact hk
def zq_hd (y : MethodName) (np : Nat) : Prop := y.cls ≠ "java/lang/invoke/MethodHandle" ∧ y.cls ≠ "java/lang/invoke/VarHandle" ∧ (parseMethodDescriptor y.desc).map (fun d => d.parameters.length) = some np
def zq_MV (own : String) (idx ci : Nat) (y : MethodName) (cy : ByteArray) (ny : Nat) (rty : Option FieldType) (np : Nat) : Prop := GoodIn zq_tb (wsV own idx y.cls y (Cond.code y cy ny rty :: zq_tb)) ∧ (∃ (T : u_T) (N : Nat), zq_cl[ci]? = some (y.cls, T, N)) ∧ zq_hd y np
def zq_MS (own : String) (idx : Nat) (y : MethodName) (cy : ByteArray) (ny : Nat) (rty : Option FieldType) (np : Nat) : Prop := Cond.code y cy ny rty ∈ zq_tb ∧ Cond.initialized y.cls ∈ zq_tb ∧ Cond.methodLink own idx y ∈ zq_tb ∧ Cond.static y ∈ zq_tb ∧ zq_hd y np
theorem zq_good_code {q : Cond} (h : q ∈ zq_tb) : GoodIn zq_tb (q :: zq_tb) := fun v hv => by
  rcases List.mem_cons.mp hv with rfl | hv
  · exact zq_allgood _ h
  · exact zq_allgood _ hv
theorem zq_MV_of {own : String} {idx ci : Nat} {y : MethodName} {cy : ByteArray} {ny : Nat} {rty : Option FieldType} {np : Nat} (T : u_T) (N : Nat) (h1 : Cond.methodLink own idx y ∈ zq_tb) (h2 : Cond.instanceMethod y ∈ zq_tb) (h3 : Cond.selects y.cls y y ∈ zq_tb) (h4 : Cond.initialized y.cls ∈ zq_tb) (h5 : Cond.code y cy ny rty ∈ zq_tb) (h6 : zq_cl[ci]? = some (y.cls, T, N)) (h7 : zq_hd y np) : zq_MV own idx ci y cy ny rty np := by
  refine ⟨fun v hv => ?_, ⟨T, N, h6⟩, h7⟩
  rcases List.mem_append.mp hv with hv | hv
  · refine zq_allgood _ ?_
    simp only [List.mem_cons, List.not_mem_nil, or_false] at hv
    rcases hv with rfl | rfl | rfl | rfl
    · exact h1
    · exact h2
    · exact h3
    · exact h4
  · exact zq_good_code h5 v hv
theorem zq_room {b : Nat} {st : List zq_Z} (h : st.length ≤ 4) : ((st.map (zq_val b)).map fun v => v.category).sum ≤ 8 := by
  have key : ∀ (l : List zq_Z), ((l.map (zq_val b)).map fun v => v.category).sum ≤ 2 * l.length := by
    intro l
    induction l with
    | nil => simp
    | cons v r ih =>
      have := lv_cat (zq_val b v)
      simp only [List.map_cons, List.sum_cons, List.length_cons]
      omega
  have := key st
  omega
/-- what a contract says of its answer: an int and the store as it was; an int and a store; nothing and a store -/
def zq_pp (σ : zq_S) (P : Int → Prop) : Option zq_Z → zq_S → Prop := fun r τ => τ = σ ∧ ∃ x, r = some (ZI x) ∧ zq_in x ∧ P x
def zq_pi (P : Int → zq_S → Prop) : Option zq_Z → zq_S → Prop := fun r τ => ∃ x, r = some (ZI x) ∧ zq_in x ∧ P x τ
def zq_pv (P : zq_S → Prop) : Option zq_Z → zq_S → Prop := fun r τ => r = none ∧ P τ
section ZQCalls
variable {w : zq_W} {own : String} {cc : ByteArray} {nL fr lo n0 n1 : Nat} {nm : String} {rt : Option FieldType} {Po : Option zq_Z → zq_S → Prop} {V : Nat → List (Option zq_Z) → List zq_Z → Nat → zq_S → Prop} {pc n : Nat} {ls : List (Option zq_Z)} {st : List zq_Z} {σ : zq_S}
/-- behind a call that ran: on with what its contract gives -/
theorem zq_after {p : Program} {l : Launch} {e : Env} {s : State} {m : MethodId} {args : Array Value} {below : List Frame} {meth : Method} {c : Code} {D : va_G} {cA : Nat → ClassId} {b : Nat} {H : Heap} {locs : List Loc} {lsA : Array Slot} {n' : Nat} {Po' : Option zq_Z → zq_S → Prop} {st0 : List Value} {a : Array Value}
    (hal : n0 < n1 → s.heap.size = b + n0) (hnn : n0 ≤ n ∧ n ≤ n1) (hn : n ≤ n' ∧ n' ≤ n1) (hS : va_S (zq_A b n0 s.heap.size) s.heap H locs) (hz : H.size = s.heap.size + (n - n0)) (hl : lv_has lsA nL (zq_ll b 0 ls))
    (hrun : va_Run p l e (zq_rm w n0 n1 fr lo) s m args below meth c H locs (n - n0) (zq_so w n - zq_so w n0) (n' - n) (zq_so w n' - zq_so w n) (F0 m pc lsA st0) (st.map (zq_val b)) (zq_Q D cA w b n n' Po' (zq_A b n H.size) a) (zq_A b n H.size))
    (k : ∀ r σ', Po' r σ' → zq_V p l e s m args below meth c D cA b w nL fr lo n0 n1 Po (pc + 3) ls (r.toList ++ st) n' σ') :
    W p l e (zq_rm w n0 n1 fr lo) s m args below meth c H locs (n - n0) (zq_so w n - zq_so w n0) (MQ below (zq_Q D cA w b n0 n1 Po (zq_A b n0 s.heap.size)) args s (n1 - n0) (zq_so w n1 - zq_so w n0) (zq_A b n0 s.heap.size)) (F0 m pc lsA st0) := by
  have hAA : ∀ q, zq_A b n H.size q → zq_A b n0 s.heap.size q := by
    intro q hq
    rcases hq with ⟨h1, h2⟩ | h
    · by_cases h3 : q < b + n0
      · exact Or.inl ⟨h1, h3⟩
      · have := hal (by omega)
        exact Or.inr (by omega)
    · exact Or.inr (by omega)
  intro T hT X
  obtain ⟨v, st₀, t, T', L, e0, X', hL, e1, e2, ⟨⟨r, σ', hv, hpo, hP1, hK1⟩, hF, hsz⟩, stp⟩ := hrun T hT X
  have hv' : v = r.map (zq_val b) := by cases hv; rfl
  subst hv'
  have hF1 : H.size ≤ t.heap.size := by rw [← e0]; exact hF.1
  have hF2 : ∀ q : Nat, q < H.size → ¬ zq_A b n H.size q → t.heap[q]? = H[q]? := fun q h1 h2 => by rw [← e0]; exact hF.2 q (by rw [e0]; exact h1) h2
  have hS1 : va_S (zq_A b n0 s.heap.size) s.heap T'.heap (locs ++ L) := by
    refine ⟨?_, fun q h1 h2 => ?_, fun q hq => ?_⟩
    · rw [e1]; have := hS.1; omega
    · rw [e1, hF2 q (by have := hS.1; omega) (fun z => h2 (hAA q z))]
      exact hS.2.1 q h1 h2
    · rcases List.mem_append.mp hq with h | h
      · exact hS.2.2 q h
      · exact hAA _ (hL q h)
  have hm1 := zq_so_le w hnn.1
  have hm2 := zq_so_le w hn.1
  have hc1 : n - n0 + (n' - n) = n' - n0 := by omega
  have hc2 : zq_so w n - zq_so w n0 + (zq_so w n' - zq_so w n) = zq_so w n' - zq_so w n0 := by omega
  rw [hc1, hc2] at X'
  obtain ⟨t2, a1, b1⟩ := k r σ' hpo T'.heap (locs ++ L) lsA ⟨by omega, hn.2⟩ (by rw [e1]; exact hP1) hS1 (by rw [e1, hsz, e0, hz]; omega) hl T' rfl X'
  refine ⟨t2, stp t2 ?_, b1⟩
  have : (r.map (zq_val b)).toList ++ st.map (zq_val b) = (r.toList ++ st).map (zq_val b) := by cases r <;> simp
  rw [this]
  exact a1
theorem zq_blind {D : va_G} {cA : Nat → ClassId} {b sz n n' : Nat} {As : List zq_Z} : FrameBlind (va_Pc (As.map (zq_val b)) (fun U => U.heap.size = sz ∧ b ≤ sz ∧ (n < n' → sz = b + n) ∧ va_P D zq_cl (zq_ws w cA b n σ) U.heap ∧ va_K D zq_cl (zq_tys cA) U ∧ zq_X U)) := fun a U g mk q => by
  obtain ⟨q0, q1, q2, q3, qP, qK, qX⟩ := q
  exact ⟨q0, q1, q2, q3, qP, va_K.moved (u := U) (U := U.calling g mk a) (Vm.Alike.refl U.vm) qK, zq_X_same (u := U) (U := U.calling g mk a) rfl qX⟩
theorem zr_callV (hV : zq_R w own cc nL fr lo n0 n1 nm rt Po V) {a : Int} (As : List zq_Z) {y : MethodName} {cy : ByteArray} {ny : Nat} {rty : Option FieldType} {fry loy n' idx ci : Nat} {Po' : Option zq_Z → zq_S → Prop} (hC : zq_C w y cy ny rty fry loy n n' (ZR a :: As) σ Po') (d : decode cc pc = .ok (.invokevirtual idx, 3)) (hM : zq_MV own idx ci y cy ny rty As.length) (hk : w.2 (w.1 a) = .inr ci) (h0 : 0 ≤ a ∧ a < n) (hroom : fry + 1 ≤ fr ∧ 8 + (ny + 11) + loy ≤ lo) (hst : st.length ≤ 4) (hn : n ≤ n' ∧ n' ≤ n1)
    (k : ∀ r σ', Po' r σ' → V (pc + 3) ls (r.toList ++ st) n' σ') : V pc ls (As.reverse ++ ZR a :: st) n σ := by
  obtain ⟨p, l, e, s, m, args, below, meth, c, D, cA, b, hx, hb, hml, hown, hts, hK, hbs, hal, hrt, hlk, hnm, hXw, rfl⟩ := hV
  intro H locs lsA hnn hP hS hz hl
  obtain ⟨hG, ⟨T, N, hc⟩, hd⟩ := hM
  obtain ⟨a', rfl⟩ := Int.eq_ofNat_of_zero_le h0.1
  have he := zq_at w cA b n σ (a := a') (by omega)
  rw [hk, zq_ent_obj] at he
  have hm1 := zq_so_le w hnn.1
  have hm2 := zq_so_le w hn.1
  have hm3 := zq_so_le w hn.2
  refine zq_after hal hnn hn hS hz hl (va_runV (As := As.map (zq_val b)) (b := b + a') (rest := st.map (zq_val b)) ⟨hx, hb, hml, hown, hts⟩ (hC l D cA b H.size) (cwV (C := y.cls) As.length hts hG rfl rfl rfl ⟨rfl, hd⟩ hroom) ⟨zq_blind, va_recv hK hP (ci := ci) (q0 := a') hc he, fun U hU hW => ⟨rfl, by rw [hU], by have := hS.1; omega, fun h => by have := hal (by omega); omega, by rw [hU]; exact hP, va_K.moved hW.alike hK, zq_X_warm hW hXw⟩⟩ rfl (by simp) hl.1 ?_ (lv_room (zq_room hst)) d ⟨by show n - n0 + (n' - n) ≤ n1 - n0; omega, by show zq_so w n - zq_so w n0 + (zq_so w n' - zq_so w n) ≤ zq_so w n1 - zq_so w n0; omega⟩) k
  show (As.reverse ++ ZR a' :: st).map (zq_val b) = _
  simp [zq_val]
theorem zr_callS (hV : zq_R w own cc nL fr lo n0 n1 nm rt Po V) (As : List zq_Z) {y : MethodName} {cy : ByteArray} {ny : Nat} {rty : Option FieldType} {fry loy n' idx : Nat} {Po' : Option zq_Z → zq_S → Prop} (hC : zq_C w y cy ny rty fry loy n n' As σ Po') (d : decode cc pc = .ok (.invokestatic idx, 3)) (hM : zq_MS own idx y cy ny rty As.length) (hroom : fry + 1 ≤ fr ∧ 8 + (ny + 11) + loy ≤ lo) (hst : st.length ≤ 4) (hn : n ≤ n' ∧ n' ≤ n1)
    (k : ∀ r σ', Po' r σ' → V (pc + 3) ls (r.toList ++ st) n' σ') : V pc ls (As.reverse ++ st) n σ := by
  obtain ⟨p, l, e, s, m, args, below, meth, c, D, cA, b, hx, hb, hml, hown, hts, hK, hbs, hal, hrt, hlk, hnm, hXw, rfl⟩ := hV
  intro H locs lsA hnn hP hS hz hl
  obtain ⟨hcd, hini, hlink, hstt, hd⟩ := hM
  have hm1 := zq_so_le w hnn.1
  have hm2 := zq_so_le w hn.1
  have hm3 := zq_so_le w hn.2
  refine zq_after hal hnn hn hS hz hl (va_runS (As := As.map (zq_val b)) (rest := st.map (zq_val b)) ⟨hx, hb, hml, hown, hts⟩ (hC l D cA b H.size) ⟨callB_of As.length hts (zq_good_code hcd) rfl rfl rfl (hts _ hini) (hts _ hlink) hd hroom, hts _ hstt⟩ ⟨zq_blind, fun U hU hW => ⟨rfl, by rw [hU], by have := hS.1; omega, fun h => by have := hal (by omega); omega, by rw [hU]; exact hP, va_K.moved hW.alike hK, zq_X_warm hW hXw⟩⟩ rfl (by simp) hl.1 ?_ (lv_room (zq_room hst)) d ⟨by show n - n0 + (n' - n) ≤ n1 - n0; omega, by show zq_so w n - zq_so w n0 + (zq_so w n' - zq_so w n) ≤ zq_so w n1 - zq_so w n0; omega⟩) k
  show (As.reverse ++ st).map (zq_val b) = _
  simp
theorem zr_callVp (hV : zq_R w own cc nL fr lo n0 n1 nm rt Po V) {a : Int} (As : List zq_Z) {y : MethodName} {cy : ByteArray} {ny : Nat} {rty : Option FieldType} {fry loy idx ci : Nat} {P : Int → Prop} (hC : zq_C w y cy ny rty fry loy n n (ZR a :: As) σ (zq_pp σ P)) (d : decode cc pc = .ok (.invokevirtual idx, 3)) (hM : zq_MV own idx ci y cy ny rty As.length) (hk : w.2 (w.1 a) = .inr ci) (h0 : 0 ≤ a ∧ a < n) (hroom : fry + 1 ≤ fr ∧ 8 + (ny + 11) + loy ≤ lo) (hst : st.length ≤ 4) (hn : n ≤ n1)
    (k : ∀ x, zq_in x → P x → V (pc + 3) ls (ZI x :: st) n σ) : V pc ls (As.reverse ++ ZR a :: st) n σ := by
  refine zr_callV hV As hC d hM hk h0 hroom hst ⟨Nat.le_refl _, hn⟩ ?_
  rintro r σ' ⟨rfl, x, rfl, hx, hp⟩
  exact k x hx hp
theorem zr_callVi (hV : zq_R w own cc nL fr lo n0 n1 nm rt Po V) {a : Int} (As : List zq_Z) {y : MethodName} {cy : ByteArray} {ny : Nat} {rty : Option FieldType} {fry loy idx ci : Nat} {P : Int → zq_S → Prop} (hC : zq_C w y cy ny rty fry loy n n (ZR a :: As) σ (zq_pi P)) (d : decode cc pc = .ok (.invokevirtual idx, 3)) (hM : zq_MV own idx ci y cy ny rty As.length) (hk : w.2 (w.1 a) = .inr ci) (h0 : 0 ≤ a ∧ a < n) (hroom : fry + 1 ≤ fr ∧ 8 + (ny + 11) + loy ≤ lo) (hst : st.length ≤ 4) (hn : n ≤ n1)
    (k : ∀ x τ, zq_in x → P x τ → V (pc + 3) ls (ZI x :: st) n τ) : V pc ls (As.reverse ++ ZR a :: st) n σ := by
  refine zr_callV hV As hC d hM hk h0 hroom hst ⟨Nat.le_refl _, hn⟩ ?_
  rintro r σ' ⟨x, rfl, hx, hp⟩
  exact k x σ' hx hp
theorem zr_callVv (hV : zq_R w own cc nL fr lo n0 n1 nm rt Po V) {a : Int} (As : List zq_Z) {y : MethodName} {cy : ByteArray} {ny : Nat} {rty : Option FieldType} {fry loy idx ci : Nat} {P : zq_S → Prop} (hC : zq_C w y cy ny rty fry loy n n (ZR a :: As) σ (zq_pv P)) (d : decode cc pc = .ok (.invokevirtual idx, 3)) (hM : zq_MV own idx ci y cy ny rty As.length) (hk : w.2 (w.1 a) = .inr ci) (h0 : 0 ≤ a ∧ a < n) (hroom : fry + 1 ≤ fr ∧ 8 + (ny + 11) + loy ≤ lo) (hst : st.length ≤ 4) (hn : n ≤ n1)
    (k : ∀ τ, P τ → V (pc + 3) ls st n τ) : V pc ls (As.reverse ++ ZR a :: st) n σ := by
  refine zr_callV hV As hC d hM hk h0 hroom hst ⟨Nat.le_refl _, hn⟩ ?_
  rintro r σ' ⟨rfl, hp⟩
  exact k σ' hp
theorem zr_callSp (hV : zq_R w own cc nL fr lo n0 n1 nm rt Po V) (As : List zq_Z) {y : MethodName} {cy : ByteArray} {ny : Nat} {rty : Option FieldType} {fry loy idx : Nat} {P : Int → Prop} (hC : zq_C w y cy ny rty fry loy n n As σ (zq_pp σ P)) (d : decode cc pc = .ok (.invokestatic idx, 3)) (hM : zq_MS own idx y cy ny rty As.length) (hroom : fry + 1 ≤ fr ∧ 8 + (ny + 11) + loy ≤ lo) (hst : st.length ≤ 4) (hn : n ≤ n1)
    (k : ∀ x, zq_in x → P x → V (pc + 3) ls (ZI x :: st) n σ) : V pc ls (As.reverse ++ st) n σ := by
  refine zr_callS hV As hC d hM hroom hst ⟨Nat.le_refl _, hn⟩ ?_
  rintro r σ' ⟨rfl, x, rfl, hx, hp⟩
  exact k x hx hp
theorem zr_callSv (hV : zq_R w own cc nL fr lo n0 n1 nm rt Po V) (As : List zq_Z) {y : MethodName} {cy : ByteArray} {ny : Nat} {rty : Option FieldType} {fry loy idx : Nat} {P : zq_S → Prop} (hC : zq_C w y cy ny rty fry loy n n As σ (zq_pv P)) (d : decode cc pc = .ok (.invokestatic idx, 3)) (hM : zq_MS own idx y cy ny rty As.length) (hroom : fry + 1 ≤ fr ∧ 8 + (ny + 11) + loy ≤ lo) (hst : st.length ≤ 4) (hn : n ≤ n1)
    (k : ∀ τ, P τ → V (pc + 3) ls st n τ) : V pc ls (As.reverse ++ st) n σ := by
  refine zr_callS hV As hC d hM hroom hst ⟨Nat.le_refl _, hn⟩ ?_
  rintro r σ' ⟨rfl, hp⟩
  exact k σ' hp
end ZQCalls
