/-! ===== the narrow machine: the law ===== -/
theorem zu_startN {σ ρ : zq_S} (h : zu_C1 σ) (k : zu_R1 ρ) : zu_TN σ ρ := by
  obtain ⟨σ0, HI, hF, -⟩ := h
  obtain ⟨⟨-, -, -, -, r3, -⟩, -⟩ := k
  refine ⟨?_, fun o o0 o1 => by exfalso; omega⟩
  rw [hF 134 0 (zc_out_at zc_s134 rfl), HI 134 0 (by decide) (by decide), zc_Ie134 zc_s134]
  rfl
theorem zu_TN_0 {σ τ π : zq_S} (h0 : τ 134 0 = σ 134 0) (h3 : σ 134 0 = 3) (r3 : π 0 3 = 0) : zu_TN τ π := ⟨h0.trans h3, fun o o0 o1 => by exfalso; omega⟩
def zn_new (σ τ : zq_S) (sp : Int) : Prop := zt_same σ τ ∨ (τ 3 3 = σ 3 3 + 1 ∧ (∀ i, τ 10 i = if i = σ 3 3 then sp else σ 10 i) ∧ τ sp 15 = -1 ∧ τ sp 16 = -1)
theorem zn_new_k {σ τ C : zq_S} {sp r : Int} (u : τ sp 15 = -1 ∧ τ sp 16 = -1) (h : zt_keep σ τ C sp r) : zn_new σ τ sp := by
  rcases h with ⟨-, -, k⟩ | ⟨-, -, k3, -, k10, -⟩
  · exact Or.inl k
  · exact Or.inr ⟨k3, k10, u⟩
theorem zn_new_a {σ τ C : zq_S} {sp r : Int} (u : τ sp 15 = -1 ∧ τ sp 16 = -1) (h : zt_acc σ τ C sp r) : zn_new σ τ sp := by
  obtain ⟨l, l0, l1, hm, ha, hb⟩ := h
  by_cases cl : l < zx_p2 (σ 3 2)
  · exact Or.inl (ha cl).2.2
  · exact zn_new_k u (hb cl).2
theorem zn_oc {σ τ : zq_S} {sp r : Int} (h : zt_oc σ τ sp r) : zn_new σ τ sp := by
  unfold zt_oc at h
  obtain ⟨h1, h2, h3⟩ := h
  by_cases cD : ∃ i, 0 ≤ i ∧ i < σ 3 3 ∧ σ (σ 10 i) 0 = zt_na (σ 2) (zt_z0 (σ 2) (σ 1 1)) (zt_n0 (σ 2) (σ 1 1))
  · exact Or.inl (h1 cD).2.2
  by_cases cK : zt_oK (σ 2) (σ 1 1) (σ 3 2) (σ 3 1) (σ 3 0)
  · obtain ⟨c, a⟩ := h3 cD cK
    unfold zt_cC at c
    obtain ⟨-, -, -, -, -, -, -, -, -, -, -, u⟩ := c
    exact zn_new_a u a
  · exact Or.inl (h2 cD cK).2.2
theorem zn_jn {σ τ : zq_S} {sp x y r : Int} (h : zt_jn σ τ sp x y r) : zn_new σ τ sp := by
  unfold zt_jn at h
  obtain ⟨h1, h2⟩ := h
  by_cases cR : 0 ≤ x ∧ x < σ 3 3 ∧ 0 ≤ y ∧ y < σ 3 3
  · obtain ⟨-, h2, h3, h4⟩ := h2 cR
    by_cases cD : zt_n0 (σ 2) (σ 1 1) = 0 ∨ ∃ i, 0 ≤ i ∧ i < σ 3 3 ∧ σ (σ 10 i) 0 = zt_na (σ 2) (zt_z0 (σ 2) (σ 1 1)) (zt_n0 (σ 2) (σ 1 1))
    · exact Or.inl (h2 cD).2
    by_cases cN : zt_nx (σ 2) (σ 1 1) (zt_p0 (σ 2) (σ 1 1)) = -1
    · obtain ⟨-, -, -, u1, u2, q, -, hn, hy⟩ := h4 cD cN
      by_cases cq : q < 0
      · exact Or.inl (hn cq).2
      · exact zn_new_k ⟨u1, u2⟩ (hy (by omega)).2
    · exact Or.inl (h3 cD cN).2
  · exact Or.inl (h1 cR).2.2
/-- ORDERS and JOINS -/
theorem zn_tell {σ τ ρ π : zq_S} {sp : Int} (hT : zc_T σ) (hρ : zx_T ρ) (hO : zx_O ρ) (hT3 : zu_T3 σ ρ) (esp : σ 3 5 = sp) (ksp : zc_kd sp = 4) (hw : zd_Own sp σ τ) (h0 : τ 134 0 = σ 134 0) (hk : zn_new σ τ sp) (e3 : τ 3 3 = π 0 3) (hun : (∀ o, o ≠ ρ 0 3 → π 8 o = ρ 8 o ∧ π 9 o = ρ 9 o) ∧ (π 0 3 = ρ 0 3 + 1 → π 8 (ρ 0 3) = -1 ∧ π 9 (ρ 0 3) = -1)) (hr : ∀ o, 0 ≤ o → o < ρ 0 3 → π 3 o = ρ 3 o ∧ π 4 o = ρ 4 o ∧ π 5 o = ρ 5 o ∧ ∀ i, 18 * o ≤ i → i < 18 * o + 18 → π 6 i = ρ 6 i) (h : zu_TN σ ρ) : zu_TN τ π := by
  have a1 := hT3.1.1
  have z3 := zx_g3 hρ
  have own : ∀ o, 0 ≤ o → o < ρ 0 3 → ∀ j, τ (σ 10 o) j = σ (σ 10 o) j := fun o o0 o1 j => by
    have ka := zc_ga10 hT zc_s10 o o0 (by omega)
    have w0 := zt_own4 (k := 0) ka ksp (by rw [← esp]; exact (hT3.2.1 o o0 (by omega)).1) (by omega) (by omega)
    exact hw _ j (by rw [ka]; decide) (by rw [ka]; decide) (by omega)
  have rows : ∀ o, 0 ≤ o → o < ρ 0 3 → π 3 o = ρ 3 o ∧ π 4 o = ρ 4 o ∧ π 5 o = ρ 5 o ∧ (∀ i, 18 * o ≤ i → i < 18 * o + 18 → π 6 i = ρ 6 i) ∧ π 8 o = ρ 8 o ∧ π 9 o = ρ 9 o := fun o o0 o1 => by
    obtain ⟨r3, r4, r5, r6⟩ := hr o o0 o1
    exact ⟨r3, r4, r5, r6, hun.1 o (by omega)⟩
  rcases hk with hk | ⟨k3, k10, u⟩
  · have k3 := hk.1
    have o3 : π 0 3 ≤ ρ 0 3 := by omega
    exact zu_TN_fr hρ hO (zs_gg_mk hT3) h0 o3 (fun o o0 o1 => by rw [hk.2.2.1 o, own o o0 (by omega), own o o0 (by omega)]; exact ⟨rfl, rfl⟩) (fun o o0 o1 => rows o o0 (by omega)) h
  · have o3 : π 0 3 = ρ 0 3 + 1 := by omega
    exact zu_TN_add (sp := sp) hρ hO (zs_gg_mk hT3) h0 (by omega) (fun o o0 o1 => by rw [k10 o, if_neg (by omega), own o o0 (by omega), own o o0 (by omega)]; exact ⟨rfl, rfl⟩) (fun _ => ⟨by rw [k10, if_pos (by omega)], u.1, u.2, (hun.2 o3).1, (hun.2 o3).2⟩) rows h
/-! answers -/
section ZNA
variable {σ τ ρ π : zq_S} {o u v : Int}
theorem zn_lk (hρ : zx_T ρ) (hO : zx_O ρ) (hT3 : zu_T3 σ ρ) (o0 : 0 ≤ o) (o1 : o < ρ 0 3) : zn_Lk (zw_ra σ (σ 10 o)) 0 (σ (σ 10 o) 4) (σ (σ 10 o) 5) (σ (σ 10 o) 6) (ρ 6) o (ρ 3 o) (ρ 4 o) (ρ 5 o) := zn_or_Lk hρ (hO o o0 o1).1 (hT3.2.2.1 o o0 o1)
theorem zn_readsL (hT : zc_T σ) (hρ : zx_T ρ) (hO : zx_O ρ) (hT3 : zu_T3 σ ρ) (h0 : τ 134 0 = σ 134 0) (c10 : ∀ i, τ 10 i = σ 10 i) (c16 : ∀ q, 0 ≤ q → q < 20 → τ (σ 10 q) 16 = σ (σ 10 q) 16) (r03 : π 0 3 = ρ 0 3) (r3 : ∀ i, π 3 i = ρ 3 i) (r4 : ∀ i, π 4 i = ρ 4 i) (r5 : ∀ i, π 5 i = ρ 5 i) (r6 : ∀ i, π 6 i = ρ 6 i) (r9 : ∀ i, π 9 i = ρ 9 i)
    (gw : (¬ (0 ≤ o ∧ o < σ 3 3) → v = -1 ∧ ∀ a i, τ a i = σ a i) ∧ (0 ≤ o ∧ o < σ 3 3 → v = zn_bs (zn_P (zw_ra σ (σ 10 o)) 0 (σ (σ 10 o) 4) (σ (σ 10 o) 5) (σ (σ 10 o) 6)) 9 ∧ τ (σ 10 o) 15 = v ∧ ∀ b, zc_kd b = 4 → b ≠ σ 10 o → τ b 15 = σ b 15))
    (kw : (¬ (0 ≤ o ∧ o < ρ 0 3) → u = -1 ∧ ∀ a i, π a i = ρ a i) ∧ (0 ≤ o → o < ρ 0 3 → u = zn_bs (zn_P (ρ 6) o (ρ 3 o) (ρ 4 o) (ρ 5 o)) 9 ∧ π 8 o = u ∧ ∀ q, q ≠ o → π 8 q = ρ 8 q)) (h : zu_TN σ ρ) : u = v ∧ zu_TN τ π := by
  have a1 := hT3.1.1
  have z3 := zx_g3 hρ
  have e6 : π 6 = ρ 6 := funext r6
  by_cases c : 0 ≤ o ∧ o < ρ 0 3
  · obtain ⟨g1, g2, g3⟩ := gw.2 ⟨c.1, by omega⟩
    obtain ⟨k1, k2, k3⟩ := kw.2 c.1 c.2
    have lk := zn_Lk_bs (zn_lk hρ hO hT3 c.1 c.2)
    refine ⟨by rw [k1, g1, lk], by rw [h0]; exact h.1, fun q q0 q1 => ?_⟩
    obtain ⟨⟨y1, y2⟩, y3, y4⟩ := h.2 q q0 (by omega)
    rw [e6, r3, r4, r5, r9, c10, c16 q q0 (by omega)]
    refine ⟨⟨?_, y2⟩, ?_, y4⟩
    · by_cases e : σ 10 q = σ 10 o
      · refine Or.inr ?_
        rw [← zn_Lk_bs (zn_lk hρ hO hT3 q0 (by omega)), e, g2, g1]
      · rw [g3 _ (zc_ga10 hT zc_s10 q q0 (by omega)) e]
        exact y1
    · by_cases e : q = o
      · rw [e, k2, k1]
        exact Or.inr rfl
      · rw [k3 q e]
        exact y3
  · obtain ⟨g1, g2⟩ := gw.1 (fun q => c ⟨q.1, by omega⟩)
    obtain ⟨k1, k2⟩ := kw.1 c
    have es : τ = σ := funext (fun a => funext (fun i => g2 a i))
    have er : π = ρ := funext (fun a => funext (fun i => k2 a i))
    rw [es, er]
    exact ⟨by omega, h⟩
theorem zn_writesL (hT : zc_T σ) (hρ : zx_T ρ) (hO : zx_O ρ) (hT3 : zu_T3 σ ρ) (h0 : τ 134 0 = σ 134 0) (c10 : ∀ i, τ 10 i = σ 10 i) (c15 : ∀ q, 0 ≤ q → q < 20 → τ (σ 10 q) 15 = σ (σ 10 q) 15) (r03 : π 0 3 = ρ 0 3) (r3 : ∀ i, π 3 i = ρ 3 i) (r4 : ∀ i, π 4 i = ρ 4 i) (r5 : ∀ i, π 5 i = ρ 5 i) (r6 : ∀ i, π 6 i = ρ 6 i) (r8 : ∀ i, π 8 i = ρ 8 i)
    (gw : (¬ (0 ≤ o ∧ o < σ 3 3) → v = -1 ∧ ∀ a i, τ a i = σ a i) ∧ (0 ≤ o ∧ o < σ 3 3 → zn_Wm (zw_ra σ (σ 10 o)) 0 (σ (σ 10 o) 4) (σ (σ 10 o) 5) (σ (σ 10 o) 6) v ∧ τ (σ 10 o) 16 = v ∧ ∀ b, zc_kd b = 4 → b ≠ σ 10 o → τ b 16 = σ b 16))
    (kw : (¬ (0 ≤ o ∧ o < ρ 0 3) → u = -1 ∧ ∀ a i, π a i = ρ a i) ∧ (0 ≤ o → o < ρ 0 3 → zn_Wm (ρ 6) o (ρ 3 o) (ρ 4 o) (ρ 5 o) u ∧ π 9 o = u ∧ ∀ q, q ≠ o → π 9 q = ρ 9 q)) (h : zu_TN σ ρ) : u = v ∧ zu_TN τ π := by
  have a1 := hT3.1.1
  have z3 := zx_g3 hρ
  have e6 : π 6 = ρ 6 := funext r6
  by_cases c : 0 ≤ o ∧ o < ρ 0 3
  · obtain ⟨g1, g2, g3⟩ := gw.2 ⟨c.1, by omega⟩
    obtain ⟨k1, k2, k3⟩ := kw.2 c.1 c.2
    refine ⟨zn_Wm_u k1 (zn_Lk_Wm (zn_lk hρ hO hT3 c.1 c.2) g1), by rw [h0]; exact h.1, fun q q0 q1 => ?_⟩
    obtain ⟨⟨y1, y2⟩, y3, y4⟩ := h.2 q q0 (by omega)
    rw [e6, r3, r4, r5, r8, c10, c15 q q0 (by omega)]
    refine ⟨⟨y1, ?_⟩, y3, ?_⟩
    · by_cases e : σ 10 q = σ 10 o
      · refine Or.inr (zn_Lk_Wm (zn_lk hρ hO hT3 q0 (by omega)) ?_)
        rw [e, g2]
        exact g1
      · rw [g3 _ (zc_ga10 hT zc_s10 q q0 (by omega)) e]
        exact y2
    · by_cases e : q = o
      · rw [e, k2]
        exact Or.inr k1
      · rw [k3 q e]
        exact y4
  · obtain ⟨g1, g2⟩ := gw.1 (fun q => c ⟨q.1, by omega⟩)
    obtain ⟨k1, k2⟩ := kw.1 c
    have es : τ = σ := funext (fun a => funext (fun i => g2 a i))
    have er : π = ρ := funext (fun a => funext (fun i => k2 a i))
    rw [es, er]
    exact ⟨by omega, h⟩
theorem zn_likeL {p : Int} (hρ : zx_T ρ) (hO : zx_O ρ) (hT3 : zu_T3 σ ρ)
    (gw : (¬ (0 ≤ o ∧ o < σ 3 3 ∧ 0 ≤ p ∧ p < σ 3 3) → v = -1) ∧ (0 ≤ o ∧ o < σ 3 3 ∧ 0 ≤ p ∧ p < σ 3 3 → (v = 0 ∨ v = 1) ∧ (v = 1 ↔ zn_Lk (zw_ra σ (σ 10 o)) 0 (σ (σ 10 o) 4) (σ (σ 10 o) 5) (σ (σ 10 o) 6) (zw_ra σ (σ 10 p)) 0 (σ (σ 10 p) 4) (σ (σ 10 p) 5) (σ (σ 10 p) 6))))
    (kw : (¬ (0 ≤ o ∧ o < ρ 0 3 ∧ 0 ≤ p ∧ p < ρ 0 3) → u = -1 ∧ ∀ a i, π a i = ρ a i) ∧ (0 ≤ o → o < ρ 0 3 → 0 ≤ p → p < ρ 0 3 → (u = 0 ∨ u = 1) ∧ (u = 1 ↔ zn_Lk (ρ 6) o (ρ 3 o) (ρ 4 o) (ρ 5 o) (ρ 6) p (ρ 3 p) (ρ 4 p) (ρ 5 p)))) : u = v := by
  have a1 := hT3.1.1
  by_cases c : 0 ≤ o ∧ o < ρ 0 3 ∧ 0 ≤ p ∧ p < ρ 0 3
  · obtain ⟨g1, g2⟩ := gw.2 ⟨c.1, by omega, c.2.2.1, by omega⟩
    obtain ⟨k1, k2⟩ := kw.2 c.1 c.2.1 c.2.2.1 c.2.2.2
    have lo := zn_lk hρ hO hT3 c.1 c.2.1
    have lp := zn_lk hρ hO hT3 c.2.2.1 c.2.2.2
    have e : u = 1 ↔ v = 1 := k2.trans ⟨fun z => g2.mpr (zn_Lk_tr lo (zn_Lk_tr z (zn_Lk_sy lp))), fun z => zn_Lk_tr (zn_Lk_sy lo) (zn_Lk_tr (g2.mp z) lp)⟩
    omega
  · have g := gw.1 (fun q => c ⟨q.1, by omega, q.2.2.1, by omega⟩)
    have k := (kw.1 c).1
    omega
end ZNA
