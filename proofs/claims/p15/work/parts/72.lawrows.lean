/-! ===== the law's judgement: the class's world, the reference's behind it, the script ===== -/
abbrev zl_SL : Nat := zq_so zc_w 284 + zq_so zx_w 41
theorem zl_SL_le : zl_SL ≤ 7302250 := by decide +kernel
def zl_E (p : Program) (s : State) (m : MethodId) (meth : Method) (c : Code) (b L : Nat) (xs : Nat → Int32) (D : va_G) (cA : Nat → ClassId) : Prop :=
  p.tables.exec = Jvm.exec ∧ c.code = code ∧ meth.sig.returnType = ret ∧ c.maxLocals = 4 ∧ s.vm.findClass "OrdersToldLaw" = some m.cls ∧ (∀ q ∈ zq_tb, q.before #[Value.ref b] s = true) ∧ va_K D zq_cl (zq_tys cA) s ∧ zq_X s ∧ va_X b L xs s s.heap ∧ b < s.heap.size ∧ meth.locks = false ∧ L ≤ 3072
section ZLaw
variable {p : Program} {l : Launch} {e : Env} {s : State} {m : MethodId} {below : List Frame} {meth : Method} {c : Code} {D : va_G} {cA : Nat → ClassId} {b L : Nat} {xs : Nat → Int32} {H : Heap} {locs : List Loc} {lsA : Array Slot} {Q : State → Prop} {pc : Nat} {rest : List Value} {cells slots : Nat}
/-- behind a call in a world w at bb, of which the cells come to n' -/
theorem zl_after {w : zq_W} {bb n n' : Nat} {ws2 : va_W} {Po : Option zq_Z → zq_S → Prop} {st0 : List Value} {a : Array Value}
    (hbb : s.heap.size ≤ bb) (hHn : n = n' ∨ H.size = bb + n) (hlt : bb + n ≤ H.size) (h2 : ∀ (k : Nat) (q : Nat × va_E), ws2[k]? = some q → q.1 < H.size ∧ (q.1 < bb ∨ bb + n ≤ q.1)) (hP2 : va_P D zq_cl ws2 H) (hS : va_S (fun q => s.heap.size ≤ q) s.heap H locs)
    (hrun : va_Run p l e room_1 s m #[Value.ref b] below meth c H locs cells slots (n' - n) (zq_so w n' - zq_so w n) (F0 m pc lsA st0) rest (zq_Q D cA w bb n n' Po (zq_A bb n H.size) a) (zq_A bb n H.size))
    (k : ∀ (r : Option zq_Z) (σ' : zq_S) (H1 : Heap) (locs1 : List Loc), Po r σ' → va_P D zq_cl (zq_ws w cA bb n' σ') H1 → va_P D zq_cl ws2 H1 → va_S (fun q => s.heap.size ≤ q) s.heap H1 locs1 → H1.size = H.size + (n' - n) → W p l e room_1 s m #[Value.ref b] below meth c H1 locs1 (cells + (n' - n)) (slots + (zq_so w n' - zq_so w n)) Q (F0 m (pc + 3) lsA ((r.map (zq_val bb)).toList ++ rest))) :
    W p l e room_1 s m #[Value.ref b] below meth c H locs cells slots Q (F0 m pc lsA st0) := by
  intro T hT X
  obtain ⟨v, st₀, t, T', Lc, e0, X', hLc, e1, e2, ⟨⟨r, σ', hv, hpo, hP1, hK1⟩, hF, hsz⟩, stp⟩ := hrun T hT X
  have hv' : v = r.map (zq_val bb) := by cases hv; rfl
  subst hv'
  have hF1 : H.size ≤ t.heap.size := by rw [← e0]; exact hF.1
  have hF2 : ∀ q : Nat, q < H.size → ¬ zq_A bb n H.size q → t.heap[q]? = H[q]? := fun q h1 h3 => by rw [← e0]; exact hF.2 q (by rw [e0]; exact h1) h3
  have hS1 : va_S (fun q => s.heap.size ≤ q) s.heap T'.heap (locs ++ Lc) := by
    refine ⟨?_, fun q h1 h3 => ?_, fun q hq => ?_⟩
    · rw [e1]; have := hS.1; omega
    · rw [e1, hF2 q (by have := hS.1; omega) (fun z => h3 (by rcases z with z | z; exact Nat.le_trans hbb z.1; exact Nat.le_trans hS.1 z))]
      exact hS.2.1 q h1 h3
    · rcases List.mem_append.mp hq with h | h
      · exact hS.2.2 q h
      · rcases hLc q h with z | z
        · exact Nat.le_trans hbb z.1
        · exact Nat.le_trans hS.1 z
  have hP2' : va_P D zq_cl ws2 T'.heap := hP2.kept (fun k9 x hx => by
    obtain ⟨g1, g2⟩ := h2 k9 x hx
    rw [e1]
    exact hF2 x.1 g1 (fun z => by rcases z with z | z <;> omega))
  obtain ⟨t2, a1, b1⟩ := k r σ' T'.heap (locs ++ Lc) hpo (by rw [e1]; exact hP1) hP2' hS1 (by rw [e1, hsz, e0]) T' rfl X'
  exact ⟨t2, stp t2 a1, b1⟩
theorem zl_room {st : List Value} (h : st.length ≤ 4) : (st.map fun v => v.category).sum ≤ 8 := by
  have key : ∀ (q : List Value), (q.map fun v => v.category).sum ≤ 2 * q.length := by
    intro q
    induction q with
    | nil => simp
    | cons v r ih =>
      have := lv_cat v
      simp only [List.map_cons, List.sum_cons, List.length_cons]
      omega
  have := key st
  omega
theorem zl_callV (E : zl_E p s m meth c b L xs D cA) {w : zq_W} {bb n ci : Nat} {ws2 : va_W} {σ : zq_S} (As : List zq_Z) {y : MethodName} {cy : ByteArray} {ny fry loy idx : Nat} {rty : Option FieldType} {Po : Option zq_Z → zq_S → Prop} (hC : zq_C w y cy ny rty fry loy n n (ZR 0 :: As) σ Po) (hM : zq_MV "OrdersToldLaw" idx ci y cy ny rty As.length) (d : decode code pc = .ok (.invokevirtual idx, 3)) (hroom : fry + 1 ≤ 10 ∧ 8 + (ny + 11) + loy ≤ 368) (hst : rest.length ≤ 4) (hk0 : w.2 (w.1 0) = .inr ci) (hn0 : 0 < n)
    (hbb : s.heap.size ≤ bb) (hlt : bb + n ≤ H.size) (h2 : ∀ (k : Nat) (q : Nat × va_E), ws2[k]? = some q → q.1 < H.size ∧ (q.1 < bb ∨ bb + n ≤ q.1)) (hP : va_P D zq_cl (zq_ws w cA bb n σ) H) (hP2 : va_P D zq_cl ws2 H) (hS : va_S (fun q => s.heap.size ≤ q) s.heap H locs) (hl : lsA.size = 4) (hc1 : cells ≤ 600000) (hc2 : slots ≤ 7302250)
    (k : ∀ (r : Option zq_Z) (σ' : zq_S) (H1 : Heap) (locs1 : List Loc), Po r σ' → va_P D zq_cl (zq_ws w cA bb n σ') H1 → va_P D zq_cl ws2 H1 → va_S (fun q => s.heap.size ≤ q) s.heap H1 locs1 → H1.size = H.size → W p l e room_1 s m #[Value.ref b] below meth c H1 locs1 cells slots Q (F0 m (pc + 3) lsA ((r.map (zq_val bb)).toList ++ rest))) :
    W p l e room_1 s m #[Value.ref b] below meth c H locs cells slots Q (F0 m pc lsA ((As.map (zq_val bb)).reverse ++ .ref bb :: rest)) := by
  obtain ⟨hx, hb, hr, hml, hown, hts, hK, hXw, hX, hbl, hlk, hL⟩ := E
  obtain ⟨hG, ⟨T, N, hc⟩, hd⟩ := hM
  have he := zq_at w cA bb n σ (a := 0) hn0
  rw [show w.2 (w.1 ((0 : Nat) : Int)) = .inr ci from hk0, zq_ent_obj] at he
  refine zl_after (n := n) (n' := n) hbb (Or.inl rfl) hlt h2 hP2 hS (va_runV (As := As.map (zq_val bb)) (b := bb) (rest := rest) ⟨hx, hb, hml, hown, hts⟩ (hC l D cA bb H.size) (cwV (C := y.cls) As.length hts hG rfl rfl rfl ⟨rfl, hd⟩ hroom) ⟨zq_blind, va_recv hK hP (ci := ci) (q0 := 0) hc he, fun U hU hW => ⟨rfl, by rw [hU], by omega, fun h => absurd h (by omega), by rw [hU]; exact hP, va_K.moved hW.alike hK, zq_X_warm hW hXw⟩⟩ rfl (by simp) hl rfl (lv_room (zl_room hst)) d ⟨by show cells + (n - n) ≤ 600000; omega, by show slots + (zq_so w n - zq_so w n) ≤ 7302250; omega⟩) ?_
  intro r σ' H1 locs1 h3 h4 h5 h6 h7
  have hk := k r σ' H1 locs1 h3 h4 h5 h6 (by omega)
  rw [Nat.sub_self, Nat.sub_self, Nat.add_zero, Nat.add_zero]
  exact hk
theorem zl_callI (E : zl_E p s m meth c b L xs D cA) {w : zq_W} {bb n n' : Nat} {ws2 : va_W} {σ : zq_S} {y : MethodName} {cy : ByteArray} {ny fry loy idx : Nat} {P : zq_S → Prop} (hC : zq_C w y cy ny none fry loy n n' [ZR 0] σ (zq_pv P)) (hM : zq_MI "OrdersToldLaw" idx y cy ny 0) (d : decode code pc = .ok (.invokespecial idx, 3)) (hroom : fry + 1 ≤ 10 ∧ 8 + (ny + 11) + loy ≤ 368) (hst : rest.length ≤ 4)
    (hbb : s.heap.size ≤ bb) (hHn : H.size = bb + n) (h2 : ∀ (k : Nat) (q : Nat × va_E), ws2[k]? = some q → q.1 < H.size ∧ (q.1 < bb ∨ bb + n ≤ q.1)) (hP : va_P D zq_cl (zq_ws w cA bb n σ) H) (hP2 : va_P D zq_cl ws2 H) (hS : va_S (fun q => s.heap.size ≤ q) s.heap H locs) (hl : lsA.size = 4) (hc1 : cells + (n' - n) ≤ 600000) (hc2 : slots + (zq_so w n' - zq_so w n) ≤ 7302250)
    (k : ∀ (σ' : zq_S) (H1 : Heap) (locs1 : List Loc), P σ' → va_P D zq_cl (zq_ws w cA bb n' σ') H1 → va_P D zq_cl ws2 H1 → va_S (fun q => s.heap.size ≤ q) s.heap H1 locs1 → H1.size = H.size + (n' - n) → W p l e room_1 s m #[Value.ref b] below meth c H1 locs1 (cells + (n' - n)) (slots + (zq_so w n' - zq_so w n)) Q (F0 m (pc + 3) lsA rest)) :
    W p l e room_1 s m #[Value.ref b] below meth c H locs cells slots Q (F0 m pc lsA (.ref bb :: rest)) := by
  obtain ⟨hx, hb, hr, hml, hown, hts, hK, hXw, hX, hbl, hlk, hL⟩ := E
  obtain ⟨hcd, hini, hlink, hins, hy1, hd⟩ := hM
  refine zl_after (n := n) (n' := n') hbb (Or.inr hHn) (by omega) h2 hP2 hS (va_runI (As := []) (b := bb) (rest := rest) ⟨hx, hb, hml, hown, hts⟩ (hC l D cA bb H.size) ⟨callB_of 0 hts (zq_good_code hcd) rfl rfl rfl (hts _ hini) (hts _ hlink) hd hroom, hy1, hts _ hins⟩ ⟨zq_blind, fun U hU hW => ⟨rfl, by rw [hU], by omega, fun _ => hHn, by rw [hU]; exact hP, va_K.moved hW.alike hK, zq_X_warm hW hXw⟩⟩ rfl rfl hl rfl (lv_room (zl_room hst)) d ⟨hc1, hc2⟩) ?_
  rintro r σ' H1 locs1 ⟨rfl, h3⟩ h4 h5 h6 h7
  exact k σ' H1 locs1 h3 h4 h5 h6 h7
end ZLaw
