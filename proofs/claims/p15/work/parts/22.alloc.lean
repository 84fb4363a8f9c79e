/-! ===== new objects and arrays ===== -/
def zq_df (ci : Nat) : Int → Int := fun i => if zq_tc ci i.toNat ≤ 1 then 0 else -1
theorem zq_df_val {b ci j : Nat} (h : zq_tc ci j ≤ 2) : defaultValue (zq_ty ci j) = zq_fv b (zq_tc ci j) (zq_df ci j) := by
  have e : zq_df ci (j : Int) = if zq_tc ci j ≤ 1 then 0 else -1 := by simp [zq_df]
  rw [e]
  unfold zq_tc at h ⊢
  cases hty : zq_ty ci j <;> rw [hty] at h <;> simp [zq_code] at h <;> simp [zq_code, zq_fv, defaultValue] <;> rfl
section ZQAlloc
variable {w : zq_W} {own : String} {cc : ByteArray} {nL fr lo n0 n1 : Nat} {nm : String} {rt : Option FieldType} {Po : Option zq_Z → zq_S → Prop} {V : Nat → List (Option zq_Z) → List zq_Z → Nat → zq_S → Prop} {pc n : Nat} {ls : List (Option zq_Z)} {st : List zq_Z} {σ : zq_S}
theorem zr_new (hV : zq_R w own cc nL fr lo n0 n1 nm rt Po V) {idx ci : Nat} {C : String} {T : u_T} {N : Nat} (d : decode cc pc = .ok (.new idx, 3)) (hc : zq_cl[ci]? = some (C, T, N)) (hin : ∀ q ∈ u_ws C T N, q ∈ zq_tb) (hty : ∀ k, k < N → parseFieldDescriptor (T k).2.2.1 = some (zq_ty ci k)) (htc : ∀ k, k < N → zq_tc ci k ≤ 2) (hcl : Cond.classLink own idx C ∈ zq_tb) (hins : Cond.instantiable C N ∈ zq_tb) (hini : Cond.initialized C ∈ zq_tb) (hw : w.2 (w.1 (n : Int)) = .inr ci) (hn1 : n < n1) (k : ∀ τ, τ = zq_cell σ (n : Int) (zq_df ci) → V (pc + 3) ls (ZR (n : Int) :: st) (n + 1) τ) : V pc ls st n σ := by
  obtain ⟨p, l, e, s, m, args, below, meth, c, D, cA, b, hx, hb, hml, hown, hts, hK, hbs, hal, hrt, hlk, hnm, hXw, rfl⟩ := hV
  intro H locs lsA hnn hP hS hz hl
  have hsz : H.size = b + n := by have := hal (by omega); omega
  have hKn := hK.1 ci _ hc
  have hnf : zq_nf ci = N := zq_nf_of hc
  have hso : zq_so w (n + 1) = zq_so w n + N := by show zq_so w n + zq_sz (w.2 (w.1 (n : Int))) = _; rw [hw]; show zq_so w n + zq_nf ci = _; rw [hnf]
  have hm1 := zq_so_le w hnn.1
  have hm2 := zq_so_le w (show n + 1 ≤ n1 by omega)
  refine W.newcK hx hb hown (hts _ hcl) (hts _ hins) (hts _ hini) rfl d (by show n - n0 + 1 ≤ n1 - n0; omega) (by show zq_so w n - zq_so w n0 + N ≤ zq_so w n1 - zq_so w n0; omega) hKn.2.1 rfl fun H1 kC hkC e1 z1 o1 => ?_
  have hP1 : va_P D zq_cl (zq_ws w cA b (n + 1) (zq_cell σ (n : Int) (zq_df ci))) H1 := by
    intro a q hq
    obtain ⟨ha, rfl⟩ := zq_at_inv hq
    by_cases hc2 : a = n
    · subst hc2
      rw [hw, zq_ent_obj]
      refine ⟨_, hc, ?_⟩
      have h1 := u_born (zq_ty ci) hts hin hKn hkC e1 hty
      rw [hsz] at h1
      refine h1.to (fun j hj => ?_)
      have hj2 : j < zq_nf ci := by rw [hnf]; exact hj
      simp only [zq_cell, if_true]
      simp [vp_V, hj2, zq_df_val (b := b) (htc j hj)]
    · have ha2 : a < n := by omega
      have := (hP a _ (zq_at w cA b n σ ha2)).kept (o1 (b + a) (by omega))
      have hne : ((a : Nat) : Int) ≠ (n : Int) := by omega
      rw [show zq_cell σ (n : Int) (zq_df ci) (a : Int) = σ a from if_neg hne]
      exact this
  have hS1 : va_S (zq_A b n0 s.heap.size) s.heap H1 locs := ⟨by have := hS.1; omega, fun q h1 h2 => (o1 q (by have := hS.1; omega)).trans (hS.2.1 q h1 h2), hS.2.2⟩
  have hk := k _ rfl H1 locs lsA ⟨by omega, by omega⟩ hP1 hS1 (by rw [z1, hz]; omega) hl
  rw [show n + 1 - n0 = n - n0 + 1 by omega, show zq_so w (n + 1) - zq_so w n0 = zq_so w n - zq_so w n0 + N by omega] at hk
  rw [hsz]
  exact hk
theorem zr_newa (hV : zq_R w own cc nL fr lo n0 n1 nm rt Po V) {x : Int} (len : Nat) (d : decode cc pc = .ok (.newarray .int, 2)) (hxl : x = (len : Int)) (hlen : Nat.ble len 40000 = true) (harr : Cond.arrayClass .int ∈ zq_tb) (hw : w.2 (w.1 (n : Int)) = .inl (0, len)) (hn1 : n < n1) (k : ∀ τ, τ = zq_cell σ (n : Int) (fun _ => 0) → V (pc + 2) ls (ZR (n : Int) :: st) (n + 1) τ) : V pc ls (ZI x :: st) n σ := by
  obtain ⟨p, l, e, s, m, args, below, meth, c, D, cA, b, hx, hb, hml, hown, hts, hK, hbs, hal, hrt, hlk, hnm, hXw, rfl⟩ := hV
  intro H locs lsA hnn hP hS hz hl
  have hlen := Nat.le_of_ble_eq_true hlen
  have hsz : H.size = b + n := by have := hal (by omega); omega
  have hso : zq_so w (n + 1) = zq_so w n + len := by show zq_so w n + zq_sz (w.2 (w.1 (n : Int))) = _; rw [hw]; rfl
  have hm1 := zq_so_le w hnn.1
  have hm2 := zq_so_le w (show n + 1 ≤ n1 by omega)
  have hin : zq_in x := ⟨by omega, by omega⟩
  refine va_newaK (atype := .int) (g := F0 m pc lsA (.int (Int32.ofInt x) :: st.map (zq_val b))) (N := len) hx hb (hts _ harr) rfl d rfl (by rw [zq_0I, zq_ltI hin ⟨by omega, by omega⟩]; omega) (by rw [zq_clamp hin]; omega) (by show len * 4 ≤ 536870912; omega) (by show n - n0 + 1 ≤ n1 - n0; omega) (by show zq_so w n - zq_so w n0 + len ≤ zq_so w n1 - zq_so w n0; omega) rfl fun H1 cX e1 z1 o1 hAr hNm => ?_
  have hcx : cX = cA 0 := by
    have h2 : va_RA s (cA 0) .int := (hK.2 0 _ (rfl : (zq_tys cA)[0]? = some (cA 0, .int))).2
    exact Option.some.inj (hNm.symm.trans h2)
  subst hcx
  have hP1 : va_P D zq_cl (zq_ws w cA b (n + 1) (zq_cell σ (n : Int) (fun _ => 0))) H1 := by
    intro a q hq
    obtain ⟨ha, rfl⟩ := zq_at_inv hq
    by_cases hc2 : a = n
    · subst hc2
      rw [hw, zq_ent_int]
      show H1[b + a]? = some (vp_cell _ _)
      rw [← hsz, e1, vp_cell_i]
      simp only [zq_cell, if_true]
      rfl
    · have ha2 : a < n := by omega
      have := (hP a _ (zq_at w cA b n σ ha2)).kept (o1 (b + a) (by omega))
      have hne : ((a : Nat) : Int) ≠ (n : Int) := by omega
      rw [show zq_cell σ (n : Int) (fun _ => 0) (a : Int) = σ a from if_neg hne]
      exact this
  have hS1 : va_S (zq_A b n0 s.heap.size) s.heap H1 locs := ⟨by have := hS.1; omega, fun q h1 h2 => (o1 q (by have := hS.1; omega)).trans (hS.2.1 q h1 h2), hS.2.2⟩
  have hk := k _ rfl H1 locs lsA ⟨by omega, by omega⟩ hP1 hS1 (by rw [z1, hz]; omega) hl
  rw [show n + 1 - n0 = n - n0 + 1 by omega, show zq_so w (n + 1) - zq_so w n0 = zq_so w n - zq_so w n0 + len by omega] at hk
  rw [hsz]
  exact hk
/-- Object's own constructor, at a constructor's start -/
theorem zr_objInit (hV : zq_R w own cc nL fr lo n0 n1 nm rt Po V) {a : Int} {idx : Nat} (d : decode cc pc = .ok (.invokespecial idx, 3)) (h1 : Cond.methodLink own idx objectInit ∈ zq_tb) (h2 : Cond.instanceMethod objectInit ∈ zq_tb) (h3 : Cond.code objectInit ⟨#[0xb1]⟩ 1 none ∈ zq_tb) (hfr : 1 ≤ fr) (hlo : 20 ≤ lo) (k : V (pc + 3) ls [] n σ) : V pc ls [ZR a] n σ := by
  obtain ⟨p, l, e, s, m, args, below, meth, c, D, cA, b, hx, hb, hml, hown, hts, hK, hbs, hal, hrt, hlk, hnm, hXw, rfl⟩ := hV
  intro H locs lsA hnn hP hS hz hl
  exact W.objInit hx hb hown (hts _ h1) (hts _ h2) (hts _ h3) rfl (by rw [hml]; exact hl.1) rfl d hfr (by have h0 : 2 * (F0 m pc lsA ([ZR a].map (zq_val b))).monitorRoom + (([] : List Value).map fun v => v.category).sum ≤ 8 := lv_room (by simp); have hlo2 : 20 ≤ (zq_rm w n0 n1 fr lo).locals := hlo; simp only [List.map_nil, List.sum_nil, Nat.add_zero] at h0 ⊢; omega) (k H locs lsA hnn hP hS hz hl)
end ZQAlloc
