/-! ===== the stepper: the tie ===== -/
def zs_ix (i : Int) : Prop := 0 ≤ i ∧ i < 336 ∧ i ≠ 270 ∧ i ≠ 271
def zs_lt (σ ρ : zq_S) : Prop := (0 ≤ σ 140 14 ∧ σ 140 14 ≤ 1023) ∧ ((ρ 15 270 ≤ 0 ∧ σ 140 13 ≤ 1) ∨ (0 < ρ 15 270 ∧ σ 140 13 = ρ 15 270 + 1 ∧ (0 ≤ ρ 15 271 ∧ ρ 15 271 ≤ 1023) ∧ ∀ i : Nat, zw_tb (σ 140 14) i ↔ zw_tb (ρ 15 271) (zs_sw i)))
def zu_T5 (σ ρ : zq_S) : Prop := σ 141 0 = zx_p2 (ρ 0 0) - 1 ∧ ρ 0 26 = σ 140 5 ∧ (∀ i, zs_ix i → ρ 15 i = zs_row σ i) ∧ (∀ k, 0 ≤ k → k < σ 140 5 → (∀ i, zs_ix i → ρ 16 (336 * ((ρ 0 27 + 99 - k) % 100) + i) = zs_U σ (k + 1) i) ∧ zs_rk (σ (154 + (σ 140 6 + 99 - k) % 100))) ∧ (∀ k, 0 ≤ k → k ≤ σ 140 5 → zw_ok (fun _ => 0) (zs_U σ k) (σ 141 0)) ∧ zs_lt σ ρ
section ZSR
variable {σ : zq_S} {i : Int}
theorem zs_row_l (h : i ≤ 265) : zs_row σ i = zw_cs σ 141 i := by unfold zs_row; rw [if_pos h]
theorem zs_row_265 : zs_row σ 265 = σ 141 4 := by rw [zs_row_l (by decide), zw_cs_p]
theorem zs_row_264 : zs_row σ 264 = σ 141 3 := by rw [zs_row_l (by decide), zw_cs_z]
theorem zs_row_266 : zs_row σ 266 = σ 140 8 := rfl
theorem zs_row_267 : zs_row σ 267 = σ 140 9 := rfl
theorem zs_row_268 : zs_row σ 268 = σ 140 10 := rfl
theorem zs_row_269 : zs_row σ 269 = σ 140 11 := rfl
theorem zs_row_g (h : 270 ≤ i) : zs_row σ i = σ 254 (i - 272) := by unfold zs_row; rw [if_neg (by omega), if_neg (by omega)]
end ZSR
/-- the mask -/
theorem zs_mk1 (k : Nat) (M : Int) (hk : k ≤ 30) (hM : M = 2 ^ k) (h2 : 2 ≤ M) (h256 : M ≤ 256) : (1 ≤ M - 1 ∧ M - 1 ≤ 255 ∧ ∀ x, 0 ≤ x → x ≤ M - 1 → zq_and x (M - 1) = x) ∧ (∀ x, 0 ≤ zq_and x (M - 1) ∧ zq_and x (M - 1) ≤ M - 1) ∧ (∀ x y, 0 ≤ x → x ≤ M - 1 → 0 ≤ y → y ≤ M - 1 → (0 ≤ zq_or x y ∧ zq_or x y ≤ M - 1) ∧ (0 ≤ zq_xor x y ∧ zq_xor x y ≤ M - 1)) := by
  refine ⟨⟨by omega, by omega, fun x x0 x1 => ?_⟩, fun x => ?_, fun x y x0 x1 y0 y1 => ⟨?_, ?_⟩⟩
  · have z := zq_and_mask x k (M - 1) M hk (by rw [hM]) hM
    rw [z.1]
    exact Int.emod_eq_of_lt x0 (by omega)
  · have z := zq_and_mask x k (M - 1) M hk (by rw [hM]) hM
    omega
  · have z := zq_or_b (x := x) (y := y) k M hk hM (by omega) (by omega)
    omega
  · have z := zq_xor_b (x := x) (y := y) k M hk hM (by omega) (by omega)
    omega
theorem zs_mk {w : Int} (h : 2 ≤ w ∧ w ≤ 8) : (1 ≤ zx_p2 w - 1 ∧ zx_p2 w - 1 ≤ 255 ∧ ∀ x, 0 ≤ x → x ≤ zx_p2 w - 1 → zq_and x (zx_p2 w - 1) = x) ∧ (∀ x, 0 ≤ zq_and x (zx_p2 w - 1) ∧ zq_and x (zx_p2 w - 1) ≤ zx_p2 w - 1) ∧ (∀ x y, 0 ≤ x → x ≤ zx_p2 w - 1 → 0 ≤ y → y ≤ zx_p2 w - 1 → (0 ≤ zq_or x y ∧ zq_or x y ≤ zx_p2 w - 1) ∧ (0 ≤ zq_xor x y ∧ zq_xor x y ≤ zx_p2 w - 1)) := by
  have hw : w = 2 ∨ w = 3 ∨ w = 4 ∨ w = 5 ∨ w = 6 ∨ w = 7 ∨ w = 8 := by omega
  rcases hw with rfl | rfl | rfl | rfl | rfl | rfl | rfl
  · exact zs_mk1 2 4 (by decide) (by decide) (by decide) (by decide)
  · exact zs_mk1 3 8 (by decide) (by decide) (by decide) (by decide)
  · exact zs_mk1 4 16 (by decide) (by decide) (by decide) (by decide)
  · exact zs_mk1 5 32 (by decide) (by decide) (by decide) (by decide)
  · exact zs_mk1 6 64 (by decide) (by decide) (by decide) (by decide)
  · exact zs_mk1 7 128 (by decide) (by decide) (by decide) (by decide)
  · exact zs_mk1 8 256 (by decide) (by decide) (by decide) (by decide)
/-- all as at first -/
theorem zu_T5_0 {σ ρ : zq_S} (hw : 2 ≤ ρ 0 0 ∧ ρ 0 0 ≤ 8) (hm : σ 141 0 = zx_p2 (ρ 0 0) - 1) (r26 : ρ 0 26 = 0) (c5 : σ 140 5 = 0) (z3 : σ 141 3 = 0) (p4 : σ 141 4 = 0) (c8 : σ 140 8 = 0) (c9 : σ 140 9 = 0) (c10 : σ 140 10 = 0) (c11 : σ 140 11 = 0) (c13 : σ 140 13 = 0) (c14 : σ 140 14 = 0) (h142 : ∀ i, 0 ≤ i → i < 8 → σ 142 i = 0) (h143 : ∀ i, 0 ≤ i → i < 256 → σ 143 i = 0) (h254 : ∀ i, 0 ≤ i → i < 64 → σ 254 i = (i + 1) % 64) (hr : ∀ j, 0 ≤ j → j < 336 → ρ 15 j = if 272 ≤ j then (j - 271) % 64 else 0) : zu_T5 σ ρ := by
  have cs : ∀ i, 0 ≤ i → i ≤ 265 → zw_cs σ 141 i = 0 := fun i i0 i1 => by
    by_cases a : i < 8
    · rw [zw_cs_r (a := 142) rfl a]; exact h142 i i0 a
    · by_cases b : i < 264
      · rw [zw_cs_m (a := 143) rfl (by omega) b]; exact h143 _ (by omega) (by omega)
      · by_cases c : i = 264
        · rw [c, zw_cs_z, z3]
        · rw [show i = 265 by omega, zw_cs_p, p4]
  have mk := zs_mk hw
  refine ⟨hm, by omega, fun i hi => ?_, fun k k0 k1 => absurd k1 (by omega), fun k k0 k1 => ?_, ⟨by omega, by omega⟩, Or.inl ⟨?_, by omega⟩⟩
  · obtain ⟨i0, i1, i2, i3⟩ := hi
    rw [hr i i0 i1]
    by_cases a : i ≤ 265
    · rw [if_neg (by omega), zs_row_l a, cs i i0 a]
    · by_cases b : i ≤ 269
      · rw [if_neg (by omega)]
        have hi : i = 266 ∨ i = 267 ∨ i = 268 ∨ i = 269 := by omega
        rcases hi with rfl | rfl | rfl | rfl
        · rw [zs_row_266, c8]
        · rw [zs_row_267, c9]
        · rw [zs_row_268, c10]
        · rw [zs_row_269, c11]
      · rw [if_pos (by omega), zs_row_g (by omega), h254 _ (by omega) (by omega)]
        congr 1
        omega
  · rw [show k = 0 by omega, zs_U_0, hm]
    have z : ∀ i, 0 ≤ i → i ≤ 265 → zs_row σ i = 0 := fun i i0 i1 => by rw [zs_row_l i1]; exact cs i i0 i1
    refine ⟨fun _ _ _ => ⟨Int.le_refl (0 : Int), show (0 : Int) ≤ 7 by decide⟩, ⟨Int.le_refl (0 : Int), by show (0 : Int) ≤ _; omega⟩, fun i i0 i1 => ?_, ?_, ?_, mk⟩
    · rw [z i i0 (by omega)]; omega
    · rw [z 264 (by decide) (by decide)]; decide
    · rw [z 265 (by decide) (by decide)]; decide
  · rw [hr 270 (by decide) (by decide), if_neg (by decide)]; decide
theorem zs_UF_c {R R' : Int → Int → Int} {nx : Int} {s : Int → Int} (h : ∀ r, 0 ≤ r → r < 100 → R' r = R r) : ∀ k : Nat, zs_UF R' nx s k = zs_UF R nx s k := by
  intro k
  induction k with
  | zero => rfl
  | succ k ih => rw [zs_UF_s, zs_UF_s, ih, h _ (by omega) (by omega)]
theorem zs_U_c {σ τ : zq_S} (h6 : τ 140 6 = σ 140 6) (hR : ∀ r i, 0 ≤ r → r < 100 → τ (154 + r) i = σ (154 + r) i) (hs : zs_row τ = zs_row σ) (n : Int) : zs_U τ n = zs_U σ n := by
  unfold zs_U
  rw [h6, hs]
  exact zs_UF_c (fun r r0 r1 => funext (fun i => hR r i r0 r1)) n.toNat
theorem zu_T5_fr {σ τ ρ π : zq_S} (m0 : τ 141 0 = σ 141 0) (m3 : τ 141 3 = σ 141 3) (m4 : τ 141 4 = σ 141 4) (h142 : ∀ i, τ 142 i = σ 142 i) (h143 : ∀ i, τ 143 i = σ 143 i) (c5 : τ 140 5 = σ 140 5) (c6 : τ 140 6 = σ 140 6) (c8 : τ 140 8 = σ 140 8) (c9 : τ 140 9 = σ 140 9) (c10 : τ 140 10 = σ 140 10) (c11 : τ 140 11 = σ 140 11) (c13 : τ 140 13 = σ 140 13) (c14 : τ 140 14 = σ 140 14) (h254 : ∀ i, τ 254 i = σ 254 i) (hR : ∀ r i, 0 ≤ r → r < 100 → τ (154 + r) i = σ (154 + r) i) (r0 : π 0 0 = ρ 0 0) (r26 : π 0 26 = ρ 0 26) (r27 : π 0 27 = ρ 0 27) (r15 : ∀ i, 0 ≤ i → i < 336 → π 15 i = ρ 15 i) (r16 : ∀ i, π 16 i = ρ 16 i) (h : zu_T5 σ ρ) : zu_T5 τ π := by
  have er : zs_row τ = zs_row σ := zs_row_c h142 h143 m3 m4 c8 c9 c10 c11 h254
  have eU := zs_U_c c6 hR er
  obtain ⟨a1, a2, a3, a4, a5, a6, a7⟩ := h
  refine ⟨by rw [m0, r0]; exact a1, by rw [r26, c5]; exact a2, fun i hi => ?_, fun k k0 k1 => ⟨fun i hi => ?_, ?_⟩, fun k k0 k1 => ?_, by rw [c14]; exact a6, ?_⟩
  · rw [r15 i hi.1 hi.2.1, er]; exact a3 i hi
  · rw [r16, r27, eU]; exact (a4 k k0 (by omega)).1 i hi
  · rw [c6, show τ (154 + (σ 140 6 + 99 - k) % 100) = σ (154 + (σ 140 6 + 99 - k) % 100) from funext (fun i => hR _ i (by omega) (by omega))]
    exact (a4 k k0 (by omega)).2
  · rw [eU, m0]; exact a5 k k0 (by omega)
  · rw [c13, c14, r15 270 (by decide) (by decide), r15 271 (by decide) (by decide)]; exact a7
theorem zu_start5 {σ ρ : zq_S} (h : zu_C1 σ) (k : zu_R1 ρ) : zu_T5 σ ρ := by
  obtain ⟨σ0, HI, hF, ⟨c0, c1, c2, c3, c4, c5, c6, c7, m0, z3, p4, k5, k8, k9, k10, k11, k13, k14⟩, h11, h139, h142, h143, h254⟩ := h
  obtain ⟨⟨r0, r1, r2, r14, r3, r18, r29, r35, r36, r26, r30⟩, ⟨hr, -⟩, -⟩ := k
  exact zu_T5_0 (by omega) (by rw [m0, r0]) r26 k5 z3 p4 k8 k9 k10 k11 k13 k14 h142 h143 h254 hr
