/-! ===== rows of the heap, returns, calls; contracts ===== -/
/-- a field's entry of a class's pool: the class ci, the field fi -/
def zq_FL (own : String) (idx ci fi : Nat) : Prop := ∃ (C : String) (T : u_T) (N : Nat) (ref : String), zq_cl[ci]? = some (C, T, N) ∧ fi < N ∧ (∀ q ∈ u_ws C T N, q ∈ zq_tb) ∧ (∀ k, k < N → parseFieldDescriptor (T k).2.2.1 = some (zq_ty ci k)) ∧ (∀ a, a < N → ∀ b, b < N → a ≠ b → (T a).2.1 ≠ (T b).2.1) ∧ Cond.fieldLink own idx ref (T fi).2.1 (T fi).2.2.1 ∈ zq_tb ∧ (ref = (T fi).1 ∨ Cond.sameField ref (T fi).1 (T fi).2.1 (T fi).2.2.1 ∈ zq_tb)
def zq_fin (ci fi : Nat) : Bool := match zq_cl[ci]? with
  | some q => (q.2.1 fi).2.2.2
  | none => false
def zq_dcl (ci fi : Nat) : String := match zq_cl[ci]? with
  | some q => (q.2.1 fi).1
  | none => ""
def zq_sv (t : Nat) (v : Int) : zq_Z := if t ≤ 1 then ZI v else if v < 0 then ZN else ZR v
theorem zq_sv_val (b t : Nat) (v : Int) : zq_val b (zq_sv t v) = zq_fv b t v := by
  unfold zq_sv zq_fv
  by_cases h : t ≤ 1
  · simp [h, zq_val]
  · by_cases h2 : v < 0
    · simp [h, h2, zq_val]
    · simp [h, h2, zq_val]
theorem zq_nf_of {ci : Nat} {C : String} {T : u_T} {N : Nat} (h : zq_cl[ci]? = some (C, T, N)) : zq_nf ci = N := by simp [zq_nf, h]
theorem zq_ent_obj (cA : Nat → ClassId) (b ci : Nat) (f : Int → Int) : zq_ent cA b (.inr ci) f = .inr (ci, (List.range (zq_nf ci)).map (fun j : Nat => zq_fv b (zq_tc ci j) (f j))) := rfl
theorem zq_ent_int (cA : Nat → ClassId) (b len : Nat) (f : Int → Int) : zq_ent cA b (.inl (0, len)) f = .inl (cA 0, len, .inl (fun j => Int32.ofInt (f j))) := rfl
theorem zq_ent_ref (cA : Nat → ClassId) (b t len : Nat) (f : Int → Int) : zq_ent cA b (.inl (t + 1, len)) f = .inl (cA (t + 1), len, .inr (.inr (.inr (.inr (fun j => zq_rf b (f j)))))) := rfl
theorem zq_fields (b ci fi : Nat) (f : Int → Int) (v : Value) (x : Int) (hv : zq_fv b (zq_tc ci fi) x = v) (hl : fi < zq_nf ci) : ((List.range (zq_nf ci)).map (fun j : Nat => zq_fv b (zq_tc ci j) (f j))).set fi v = (List.range (zq_nf ci)).map (fun j : Nat => zq_fv b (zq_tc ci j) (if (j : Int) = fi then x else f j)) := by
  apply List.ext_getElem?
  intro k
  by_cases hk : k = fi
  · subst hk
    rw [List.getElem?_set_self (by simpa using hl)]
    simp [hl, hv]
  · rw [List.getElem?_set_ne (Ne.symm hk)]
    by_cases hlk : k < zq_nf ci
    · have : ¬ (k : Int) = fi := by omega
      simp [hlk, this]
    · rw [List.getElem?_eq_none (by simp; omega), List.getElem?_eq_none (by simp; omega)]
theorem zq_up_row (σ : zq_S) (a i x : Int) : zq_up σ a i x a = fun j => if j = i then x else σ a j := by
  funext j
  simp [zq_up]
section ZQHeap
variable {w : zq_W} {own : String} {cc : ByteArray} {nL fr lo n0 n1 : Nat} {nm : String} {rt : Option FieldType} {Po : Option zq_Z → zq_S → Prop} {V : Nat → List (Option zq_Z) → List zq_Z → Nat → zq_S → Prop} {pc n : Nat} {ls : List (Option zq_Z)} {st : List zq_Z} {σ : zq_S}
theorem zr_get0 (hV : zq_R w own cc nL fr lo n0 n1 nm rt Po V) {a : Int} {ci fi idx : Nat} (d : decode cc pc = .ok (.getfield idx, 3)) (hF : zq_FL own idx ci fi) (hk : w.2 (w.1 a) = .inr ci) (h0 : 0 ≤ a) (ha : a < n) (k : V (pc + 3) ls (zq_sv (zq_tc ci fi) (σ a fi) :: st) n σ) : V pc ls (ZR a :: st) n σ := by
  obtain ⟨p, l, e, s, m, args, below, meth, c, D, cA, b, hx, hb, hml, hown, hts, hK, hbs, hal, hrt, hlk, hnm, hXw, rfl⟩ := hV
  intro H locs lsA hnn hP hS hz hl
  obtain ⟨C, T, N, ref, hc, hfi, hin, hty, hnmF, hlink, hsm⟩ := hF
  obtain ⟨a', rfl⟩ := Int.eq_ofNat_of_zero_le h0
  have he := zq_at w cA b n σ (a := a') (by omega)
  rw [hk, zq_ent_obj] at he
  have hkk := k H locs lsA hnn hP hS hz hl
  rw [List.map_cons, zq_sv_val] at hkk
  refine va_get (T := T) (ref := ref) hx hb hts hin hown hK hP a' he hc fi hfi (hts _ hlink) ?_ (v := zq_fv b (zq_tc ci fi) (σ a' fi)) ?_ d hkk
  · intro x hxx
    rcases hsm with rfl | hsm
    · exact hxx
    · exact u_same (hts _ hsm) x hxx
  · have : fi < zq_nf ci := by rw [zq_nf_of hc]; exact hfi
    simp [this]
theorem zr_getI (hV : zq_R w own cc nL fr lo n0 n1 nm rt Po V) {a : Int} {ci fi idx : Nat} (fz : Int) (d : decode cc pc = .ok (.getfield idx, 3)) (hF : zq_FL own idx ci fi) (hz : (fi : Int) = fz) (ht : Nat.ble (zq_tc ci fi) 1 = true) (hk : w.2 (w.1 a) = .inr ci) (h0 : 0 ≤ a ∧ a < n) (k : V (pc + 3) ls (ZI (σ a fz) :: st) n σ) : V pc ls (ZR a :: st) n σ := by
  subst hz
  refine zr_get0 hV d hF hk h0.1 h0.2 ?_
  have : zq_tc ci fi ≤ 1 := Nat.le_of_ble_eq_true ht
  rw [zq_sv, if_pos this]
  exact k
/-- a reference of which is known where it points -/
theorem zr_getR (hV : zq_R w own cc nL fr lo n0 n1 nm rt Po V) {a : Int} {ci fi idx : Nat} (fz c : Int) (d : decode cc pc = .ok (.getfield idx, 3)) (hF : zq_FL own idx ci fi) (hz : (fi : Int) = fz) (ht : Nat.ble 2 (zq_tc ci fi) = true) (hk : w.2 (w.1 a) = .inr ci) (h0 : 0 ≤ a ∧ a < n) (hc : σ a fz = c) (hv : 0 ≤ c) (k : V (pc + 3) ls (ZR c :: st) n σ) : V pc ls (ZR a :: st) n σ := by
  subst hz
  refine zr_get0 hV d hF hk h0.1 h0.2 ?_
  have : 2 ≤ zq_tc ci fi := Nat.le_of_ble_eq_true ht
  rw [zq_sv, if_neg (by omega), if_neg (by omega), hc]
  exact k
theorem zq_nn {n0 n1 n b sz : Nat} (hal : n0 < n1 → sz = b + n0) (hn : n0 ≤ n ∧ n ≤ n1) : ∀ a : Nat, a < n → zq_A b n0 sz (b + a) := by
  intro a ha
  by_cases h : a < n0
  · exact Or.inl ⟨by omega, by omega⟩
  · have := hal (by omega)
    exact Or.inr (by omega)
/-- putfield: v is what the slot's new number x looks like -/
theorem zr_put0 (hV : zq_R w own cc nL fr lo n0 n1 nm rt Po V) {a x : Int} {v : zq_Z} {ci fi idx : Nat} (d : decode cc pc = .ok (.putfield idx, 3)) (hF : zq_FL own idx ci fi) (hfin : zq_fin ci fi = false ∨ (nm = "<init>" ∧ zq_dcl ci fi = own)) (hv : ∀ b : Nat, zq_fv b (zq_tc ci fi) x = zq_val b v) (hnar : ∀ b : Nat, narrow (zq_ty ci fi) (zq_val b v) = zq_val b v ∧ fits (zq_ty ci fi) (zq_val b v) = true) (hk : w.2 (w.1 a) = .inr ci) (h0 : 0 ≤ a) (ha : a < n) (k : V (pc + 3) ls st n (zq_up σ a fi x)) : V pc ls (v :: ZR a :: st) n σ := by
  obtain ⟨p, l, e, s, m, args, below, meth, c, D, cA, b, hx, hb, hml, hown, hts, hK, hbs, hal, hrt, hlk, hnm, hXw, rfl⟩ := hV
  intro H locs lsA hnn hP hS hz hl
  obtain ⟨C, T, N, ref, hc, hfi, hin, hty, hnmF, hlink, hsm⟩ := hF
  obtain ⟨a', rfl⟩ := Int.eq_ofNat_of_zero_le h0
  have ha' : a' < n := by omega
  have he := zq_at w cA b n σ (a := a') ha'
  have hfl : fi < zq_nf ci := by rw [zq_nf_of hc]; exact hfi
  have hset : (zq_ws w cA b n σ).set a' (b + a', .inr (ci, ((List.range (zq_nf ci)).map (fun j : Nat => zq_fv b (zq_tc ci j) (σ a' j))).set fi (zq_val b v))) = zq_ws w cA b n (zq_up σ a' fi x) := by
    rw [← zq_cell_up, ← zq_ws_set w cA b n σ ha', hk, zq_ent_obj, zq_up_row, zq_fields b ci fi (σ a') (zq_val b v) x (hv b) hfl]
  rw [hk, zq_ent_obj] at he
  have hD := zq_D w cA b n σ (zq_A b n0 s.heap.size) (zq_nn hal hnn)
  have hsame : ∀ x, s.fieldFound? (T fi).1 (T fi).2.1 (T fi).2.2.1 = some x → s.fieldFound? ref (T fi).2.1 (T fi).2.2.1 = some x := by
    intro x hxx
    rcases hsm with rfl | hsm
    · exact hxx
    · exact u_same (hts _ hsm) x hxx
  have key : ∀ (H1 : Heap) (locs1 : List Loc), va_P D zq_cl ((zq_ws w cA b n σ).set a' (b + a', .inr (ci, ((List.range (zq_nf ci)).map (fun j : Nat => zq_fv b (zq_tc ci j) (σ a' j))).set fi (zq_val b v)))) H1 → va_S (zq_A b n0 s.heap.size) s.heap H1 locs1 → H1.size = H.size → W p l e (zq_rm w n0 n1 fr lo) s m args below meth c H1 locs1 (n - n0) (zq_so w n - zq_so w n0) (MQ below (zq_Q D cA w b n0 n1 Po (zq_A b n0 s.heap.size)) args s (n1 - n0) (zq_so w n1 - zq_so w n0) (zq_A b n0 s.heap.size)) (F0 m (pc + 3) lsA (st.map (zq_val b))) := by
    intro H1 locs1 hP1 hS1 hz1
    rw [hset] at hP1
    exact k H1 locs1 lsA hnn hP1 hS1 (by rw [hz1]; exact hz) hl
  have hzz : ∀ (H1 : Heap) (locs1 : List Loc), va_S (zq_A b n0 s.heap.size) s.heap H1 locs1 → True := fun _ _ _ => trivial
  obtain ⟨r, h1, cell, q1, q2, q3, q4⟩ := hP a' _ he
  have hr : r = (C, T, N) := Option.some.inj (h1.symm.trans hc)
  subst hr
  obtain ⟨hSl, hfc, kC, hkC, hkind⟩ := hK.1 ci _ hc
  obtain ⟨cf, kf, fI, f, hi, hsl⟩ := hSl fi hfi
  have hap := va_apart (own := own) hts hin (zq_ty ci) hty hnmF hK hc
  have hst := (u_facts hfc hkC (u_lays hts hin hfi) hi).1
  have hlen : fi < ((List.range (zq_nf ci)).map (fun j : Nat => zq_fv b (zq_tc ci j) (σ a' j))).length := by simpa using hfl
  have hlay := hts _ (hin _ (u_in_lay hfi))
  unfold u_lay at hlay
  cases hfb : (T fi).2.2.2 with
  | false =>
    rw [if_neg (by rw [hfb]; decide)] at hlay
    have h6 := u_store hfc hkC hkind hlay hi (hty fi hfi) (hnar b).1 (hnar b).2
    refine W.putK hx hb (f := f) ⟨hown, hts _ hlink, ⟨_, _, _, hsame _ hi⟩, hst⟩ (by rw [q2]; exact h6) q1 q3 (by rw [hsl]; exact k2_hasslot (q4 fi hfi)) rfl rfl d fun H' e1 e2 e3 => ?_
    rw [hsl] at e1 ⊢
    exact key H' _ (hP.set hD he ⟨_, hc, t_OB.to (V := updV (vp_V _) fi (zq_val b v)) ⟨_, e1, q2, q3, t_set q4 hap hfi (zq_val b v)⟩ (fun j _ => vp_updV_set hlen (zq_val b v) j)⟩ e3) (hS.put e2 e3 (hD.2 a' _ he)) e2
  | true =>
    have hfd : meth.name = "<init>" ∧ (T fi).1 = own := by
      rcases hfin with h | ⟨h, h2⟩
      · have e : zq_fin ci fi = (T fi).2.2.2 := by simp [zq_fin, hc]
        rw [e, hfb] at h
        cases h
      · have e : zq_dcl ci fi = (T fi).1 := by simp [zq_dcl, hc]
        rw [e] at h2
        exact ⟨by rw [hnm]; exact h, h2⟩
    obtain ⟨hini, hdecl⟩ := hfd
    rw [if_pos hfb] at hlay
    have hcf : m.cls = cf := by
      obtain ⟨_, _, c', _, _, _, -, -, hf', -, -, -, hown2, -⟩ := Cond.laysFinal_spec hlay
      have e1 : c' = cf := by have := hi.symm.trans hf'; simp at this; exact this.1.symm
      rw [hdecl] at hown2
      rw [← e1]; exact Option.some.inj (hown.symm.trans hown2)
    have h6 := u_fits hfc hkC hkind (Or.inr hlay) hi (hty fi hfi) (hnar b).1 (hnar b).2
    refine W.putFinK hx hb hown (hts _ hlink) (hsame _ hi) hst hcf hini (by rw [q2]; exact h6) q1 q3 (by rw [hsl]; exact k2_hasslot (q4 fi hfi)) rfl rfl d fun H' e1 e2 e3 => ?_
    rw [hsl] at e1 ⊢
    exact key H' _ (hP.set hD he ⟨_, hc, t_OB.to (V := updV (vp_V _) fi (zq_val b v)) ⟨_, e1, q2, q3, t_set q4 hap hfi (zq_val b v)⟩ (fun j _ => vp_updV_set hlen (zq_val b v) j)⟩ e3) (hS.put e2 e3 (hD.2 a' _ he)) e2
theorem zr_putI (hV : zq_R w own cc nL fr lo n0 n1 nm rt Po V) {a x : Int} {ci fi idx : Nat} (fz : Int) (d : decode cc pc = .ok (.putfield idx, 3)) (hF : zq_FL own idx ci fi) (hz : (fi : Int) = fz) (hfin : zq_fin ci fi = false) (ht : zq_ty ci fi = .int) (hk : w.2 (w.1 a) = .inr ci) (h0 : 0 ≤ a ∧ a < n) (k : ∀ τ, τ = zq_up σ a fz x → V (pc + 3) ls st n τ) : V pc ls (ZI x :: ZR a :: st) n σ := by
  subst hz
  refine zr_put0 hV d hF (Or.inl hfin) (fun b => ?_) (fun b => ?_) hk h0.1 h0.2 (k _ rfl)
  · simp [zq_tc, ht, zq_code, zq_fv, zq_val]
  · rw [ht]; exact ⟨rfl, rfl⟩
theorem zr_putZ (hV : zq_R w own cc nL fr lo n0 n1 nm rt Po V) {a x : Int} {ci fi idx : Nat} (fz : Int) (d : decode cc pc = .ok (.putfield idx, 3)) (hF : zq_FL own idx ci fi) (hz : (fi : Int) = fz) (hfin : zq_fin ci fi = false) (ht : zq_ty ci fi = .boolean) (hx : x = 0 ∨ x = 1) (hk : w.2 (w.1 a) = .inr ci) (h0 : 0 ≤ a ∧ a < n) (k : ∀ τ, τ = zq_up σ a fz x → V (pc + 3) ls st n τ) : V pc ls (ZI x :: ZR a :: st) n σ := by
  subst hz
  refine zr_put0 hV d hF (Or.inl hfin) (fun b => ?_) (fun b => ?_) hk h0.1 h0.2 (k _ rfl)
  · simp [zq_tc, ht, zq_code, zq_fv, zq_val]
  · rw [ht]
    rcases hx with rfl | rfl
    · exact ⟨rfl, rfl⟩
    · exact ⟨rfl, rfl⟩
/-- a reference into a field -/
theorem zr_putR (hV : zq_R w own cc nL fr lo n0 n1 nm rt Po V) {a x : Int} {ci fi idx : Nat} (fz : Int) (d : decode cc pc = .ok (.putfield idx, 3)) (hF : zq_FL own idx ci fi) (hz : (fi : Int) = fz) (hfin : zq_fin ci fi = false ∨ (nm = "<init>" ∧ zq_dcl ci fi = own)) (ht : zq_tc ci fi = 2) (hx : 0 ≤ x) (hk : w.2 (w.1 a) = .inr ci) (h0 : 0 ≤ a ∧ a < n) (k : ∀ τ, τ = zq_up σ a fz x → V (pc + 3) ls st n τ) : V pc ls (ZR x :: ZR a :: st) n σ := by
  subst hz
  refine zr_put0 hV d hF hfin (fun b => ?_) (fun b => ?_) hk h0.1 h0.2 (k _ rfl)
  · simp [ht, zq_fv, zq_val, show ¬ x < 0 by omega]
  · unfold zq_tc at ht
    cases hty : zq_ty ci fi <;> rw [hty] at ht <;> simp [zq_code] at ht
    · exact ⟨rfl, rfl⟩
    · exact ⟨rfl, rfl⟩
theorem zr_iald (hV : zq_R w own cc nL fr lo n0 n1 nm rt Po V) {a i : Int} {len : Nat} (d : decode cc pc = .ok (.iaload, 1)) (hk : w.2 (w.1 a) = .inl (0, len)) (h0 : 0 ≤ a ∧ a < n) (hn : Nat.ble len 40000 = true) (hi : 0 ≤ i ∧ i < len) (k : V (pc + 1) ls (ZI (σ a i) :: st) n σ) : V pc ls (ZI i :: ZR a :: st) n σ := by
  obtain ⟨p, l, e, s, m, args, below, meth, c, D, cA, b, hx, hb, hml, hown, hts, hK, hbs, hal, hrt, hlk, hnm, hXw, rfl⟩ := hV
  intro H locs lsA hnn hP hS hz hl
  have hn := Nat.le_of_ble_eq_true hn
  have hvin : vp_in (Int32.ofInt i) len := zq_vin hi.1 hi.2 (by omega)
  obtain ⟨a', rfl⟩ := Int.eq_ofNat_of_zero_le h0.1
  have he := zq_at w cA b n σ (a := a') (by omega)
  rw [hk, zq_ent_int] at he
  have hkk := k H locs lsA hnn hP hS hz hl
  refine va_iald hx hb hK hP a' 0 he rfl (zq_vin hi.1 hi.2 (by omega)) d ?_
  rw [zq_clamp ⟨by omega, by omega⟩, show ((i.toNat : Nat) : Int) = i by omega]
  exact hkk
theorem zr_iast (hV : zq_R w own cc nL fr lo n0 n1 nm rt Po V) {a i x : Int} {len : Nat} (d : decode cc pc = .ok (.iastore, 1)) (hk : w.2 (w.1 a) = .inl (0, len)) (h0 : 0 ≤ a ∧ a < n) (hn : Nat.ble len 40000 = true) (hi : 0 ≤ i ∧ i < len) (k : ∀ τ, τ = zq_up σ a i x → V (pc + 1) ls st n τ) : V pc ls (ZI x :: ZI i :: ZR a :: st) n σ := by
  obtain ⟨p, l, e, s, m, args, below, meth, c, D, cA, b, hx, hb, hml, hown, hts, hK, hbs, hal, hrt, hlk, hnm, hXw, rfl⟩ := hV
  intro H locs lsA hnn hP hS hz hl
  have hn := Nat.le_of_ble_eq_true hn
  have hvin : vp_in (Int32.ofInt i) len := zq_vin hi.1 hi.2 (by omega)
  obtain ⟨a', rfl⟩ := Int.eq_ofNat_of_zero_le h0.1
  have ha' : a' < n := by omega
  have he := zq_at w cA b n σ (a := a') ha'
  rw [hk, zq_ent_int] at he
  have hD := zq_D w cA b n σ (zq_A b n0 s.heap.size) (zq_nn hal hnn)
  have hset : (zq_ws w cA b n σ).set a' (b + a', .inl (cA 0, len, .inl (upd (fun j => Int32.ofInt (σ a' j)) i.toNat (Int32.ofInt x)))) = zq_ws w cA b n (zq_up σ a' i x) := by
    rw [← zq_cell_up, ← zq_ws_set w cA b n σ ha', hk, zq_ent_int, zq_up_row]
    congr 6
    funext j
    by_cases hj : j = i.toNat
    · have : (j : Int) = i := by omega
      simp [upd, hj, show ((i.toNat : Nat) : Int) = i by omega]
    · have : ¬ (j : Int) = i := by omega
      simp [upd, hj, this]
  refine W.iast hx hb (hP a' _ he) ((hK.2 0 _ (rfl : (zq_tys cA)[0]? = some (cA 0, .int))).1 len (fun j => .int (Int32.ofInt (σ a' j)))) (fun q => by cases q) (by show ¬ (_ < 0 ∨ (arrV _ _ _).slots.size ≤ _); rw [arrV_size]; exact hvin) rfl rfl d fun H1 e z oq => ?_
  refine k _ rfl H1 _ lsA hnn ?_ (hS.put z oq (hD.2 a' _ he)) (by rw [z]; exact hz) hl
  rw [← hset]
  refine hP.set hD he ?_ oq
  show H1[b + a']? = some (vp_cell _ _)
  rw [e, zq_clamp ⟨by omega, by omega⟩]
  rw [vp_cell_i, vp_cell_i, arrV_store]
  congr 2
  funext q
  by_cases hq : q = i.toNat
  · subst hq
    simp [updV, upd]
  · simp [updV, upd, hq]
theorem zr_alen (hV : zq_R w own cc nL fr lo n0 n1 nm rt Po V) {a : Int} {len : Nat} (d : decode cc pc = .ok (.arraylength, 1)) (hk : w.2 (w.1 a) = .inl (0, len)) (h0 : 0 ≤ a ∧ a < n) (k : V (pc + 1) ls (ZI len :: st) n σ) : V pc ls (ZR a :: st) n σ := by
  obtain ⟨p, l, e, s, m, args, below, meth, c, D, cA, b, hx, hb, hml, hown, hts, hK, hbs, hal, hrt, hlk, hnm, hXw, rfl⟩ := hV
  intro H locs lsA hnn hP hS hz hl
  obtain ⟨a', rfl⟩ := Int.eq_ofNat_of_zero_le h0.1
  have he := zq_at w cA b n σ (a := a') (by omega)
  rw [hk, zq_ent_int] at he
  have hkk := k H locs lsA hnn hP hS hz hl
  exact va_alen hx hb hK hP a' 0 he (rfl : (zq_tys cA)[0]? = some (cA 0, .int)) (v := Int32.ofInt len) (by apply Int32.toBitVec_inj.mp; simp) d hkk
theorem zq_rf_val (b : Nat) (v : Int) (h : 0 ≤ v) : va_rf (zq_rf b v) = zq_val b (ZR v) := by
  simp [zq_rf, show ¬ v < 0 by omega, va_rf, zq_val]
theorem zr_aald (hV : zq_R w own cc nL fr lo n0 n1 nm rt Po V) {a i : Int} {t len : Nat} (d : decode cc pc = .ok (.aaload, 1)) (hk : w.2 (w.1 a) = .inl (t, len)) (ht : t = 1 ∨ t = 2) (h0 : 0 ≤ a ∧ a < n) (hn : Nat.ble len 40000 = true) (hi : 0 ≤ i ∧ i < len) (hv : 0 ≤ σ a i) (k : V (pc + 1) ls (ZR (σ a i) :: st) n σ) : V pc ls (ZI i :: ZR a :: st) n σ := by
  obtain ⟨p, l, e, s, m, args, below, meth, c, D, cA, b, hx, hb, hml, hown, hts, hK, hbs, hal, hrt, hlk, hnm, hXw, rfl⟩ := hV
  intro H locs lsA hnn hP hS hz hl
  have hn := Nat.le_of_ble_eq_true hn
  have hvin : vp_in (Int32.ofInt i) len := zq_vin hi.1 hi.2 (by omega)
  obtain ⟨a', rfl⟩ := Int.eq_ofNat_of_zero_le h0.1
  have he := zq_at w cA b n σ (a := a') (by omega)
  have hkk := k H locs lsA hnn hP hS hz hl
  have hic : (Int32.ofInt i).toNatClampNeg = i.toNat := zq_clamp ⟨by omega, by omega⟩
  have hii : ((i.toNat : Nat) : Int) = i := by omega
  have hlt : i.toNat < len := by omega
  rcases ht with rfl | rfl
  · rw [hk, zq_ent_ref] at he
    refine W.aald (v := va_rf (zq_rf b (σ a' i))) (ty := .object RX3) hx hb (hP a' _ he) ((hK.2 1 _ (rfl : (zq_tys cA)[1]? = some (cA 1, .object RX3))).1 len (fun j => va_rf (zq_rf b (σ a' j)))) rfl (fun q => by cases q) (by show ¬ (_ < 0 ∨ (arrV _ _ _).slots.size ≤ _); rw [arrV_size]; exact hvin) (by show (arrV _ _ _).slots[_]? = _; rw [hic, arrV_read _ _ hlt]; show some (va_rf (zq_rf b (σ a' (i.toNat : Nat)))) = _; rw [hii]) rfl rfl d ?_
    rw [zq_rf_val b _ hv]
    exact hkk
  · rw [hk, zq_ent_ref] at he
    refine W.aald (v := va_rf (zq_rf b (σ a' i))) (ty := .array .int) hx hb (hP a' _ he) ((hK.2 2 _ (rfl : (zq_tys cA)[2]? = some (cA 2, .array .int))).1 len (fun j => va_rf (zq_rf b (σ a' j)))) rfl (fun q => by cases q) (by show ¬ (_ < 0 ∨ (arrV _ _ _).slots.size ≤ _); rw [arrV_size]; exact hvin) (by show (arrV _ _ _).slots[_]? = _; rw [hic, arrV_read _ _ hlt]; show some (va_rf (zq_rf b (σ a' (i.toNat : Nat)))) = _; rw [hii]) rfl rfl d ?_
    rw [zq_rf_val b _ hv]
    exact hkk
/-- returns -/
theorem zr_iret (hV : zq_R w own cc nL fr lo n0 n1 nm rt Po V) {x : Int} (d : decode cc pc = .ok (.ireturn, 1)) (hr : rt = some .int) (hn : n = n1) (k : Po (some (ZI x)) σ) : V pc ls [ZI x] n σ := by
  obtain ⟨p, l, e, s, m, args, below, meth, c, D, cA, b, hx, hb, hml, hown, hts, hK, hbs, hal, hrt, hlk, hnm, hXw, rfl⟩ := hV
  intro H locs lsA hnn hP hS hz hl
  subst hn
  exact W.iret (v := Int32.ofInt x) hx hb (hrt.trans hr) (fun t ht hW => ⟨⟨some (ZI x), σ, rfl, k, by rw [ht]; exact hP, va_K.moved hW.alike hK⟩, hS.F ht, by rw [ht]; exact hz⟩) hS.2.2 d
theorem zr_zret (hV : zq_R w own cc nL fr lo n0 n1 nm rt Po V) {x : Int} (d : decode cc pc = .ok (.ireturn, 1)) (hr : rt = some .boolean) (hn : n = n1) (h01 : x = 0 ∨ x = 1) (k : Po (some (ZI x)) σ) : V pc ls [ZI x] n σ := by
  obtain ⟨p, l, e, s, m, args, below, meth, c, D, cA, b, hx, hb, hml, hown, hts, hK, hbs, hal, hrt, hlk, hnm, hXw, rfl⟩ := hV
  intro H locs lsA hnn hP hS hz hl
  subst hn
  exact W.zret (v := Int32.ofInt x) (ty := .boolean) hx hb (hrt.trans hr) (by rcases h01 with rfl | rfl <;> rfl) (fun t ht hW => ⟨⟨some (ZI x), σ, rfl, k, by rw [ht]; exact hP, va_K.moved hW.alike hK⟩, hS.F ht, by rw [ht]; exact hz⟩) hS.2.2 d
theorem zr_vret (hV : zq_R w own cc nL fr lo n0 n1 nm rt Po V) (d : decode cc pc = .ok (.return_, 1)) (hr : rt = none) (hn : n = n1) (k : Po none σ) : V pc ls [] n σ := by
  obtain ⟨p, l, e, s, m, args, below, meth, c, D, cA, b, hx, hb, hml, hown, hts, hK, hbs, hal, hrt, hlk, hnm, hXw, rfl⟩ := hV
  intro H locs lsA hnn hP hS hz hl
  subst hn
  exact W.vret hx hb (hrt.trans hr) (fun t ht hW => ⟨⟨none, σ, rfl, k, by rw [ht]; exact hP, va_K.moved hW.alike hK⟩, hS.F ht, by rw [ht]; exact hz⟩) hS.2.2 d
theorem zr_aret (hV : zq_R w own cc nL fr lo n0 n1 nm rt Po V) {v : zq_Z} {ty : FieldType} (d : decode cc pc = .ok (.areturn, 1)) (hr : rt = some ty) (hty : (∃ n, ty = .object n) ∨ ∃ t, ty = .array t) (hv : v = ZN ∨ ∃ x, v = ZR x) (hn : n = n1) (k : Po (some v) σ) : V pc ls [v] n σ := by
  obtain ⟨p, l, e, s, m, args, below, meth, c, D, cA, b, hx, hb, hml, hown, hts, hK, hbs, hal, hrt, hlk, hnm, hXw, rfl⟩ := hV
  intro H locs lsA hnn hP hS hz hl
  subst hn
  exact W.aret (v := zq_val b v) hx hb (hrt.trans hr) hty (by rcases hv with rfl | ⟨x, rfl⟩; exact Or.inl rfl; exact Or.inr ⟨_, rfl⟩) (fun t ht hW => ⟨⟨some v, σ, rfl, k, by rw [ht]; exact hP, va_K.moved hW.alike hK⟩, hS.F ht, by rw [ht]; exact hz⟩) hS.2.2 d
end ZQHeap
