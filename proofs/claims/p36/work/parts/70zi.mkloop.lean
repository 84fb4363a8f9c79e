/-! ===== make: the class's loop over the nodes ===== -/
/-- behind the nodes ahead of n -/
def zm_MI (σ τ : zq_S) (n : Int) : Prop := ∀ D, zm_HH σ D → 0 ≤ zp_q D → (∀ i, 0 ≤ i → i < D 0 37 → τ 274 i = zm_It D (D 0 35) i ∧ τ 273 i = zm_C D i) ∧ τ 255 9 = zm_n (zm_It D (D 0 35)) n ∧ zm_E (zm_It D (D 0 35)) (zm_Wt D (D 0 35)) (τ 275) n ∧ zm_G (zm_It D (D 0 35)) (zx_p2 (D 0 1)) n
section ZMMI
variable {σ τ π : zq_S} {n o : Int}
theorem zm_MI_0 (h9 : τ 255 9 = 0) (h : ∀ D, zm_HH σ D → 0 ≤ zp_q D → ∀ i, 0 ≤ i → i < D 0 37 → τ 274 i = zm_It D (D 0 35) i ∧ τ 273 i = zm_C D i) : zm_MI σ τ 0 := fun D hD hq => ⟨h D hD hq, h9, zm_E_0 _ _ _, zm_G_0 _ _⟩
theorem zm_MI_n (n0 : 0 ≤ n) (n1 : n < σ (σ 255 1) 5) (hn : τ 274 n = -1) (h : zm_MI σ τ n) : zm_MI σ τ (n + 1) := fun D hD hq => by
  obtain ⟨a, b, c, d⟩ := h D hD hq
  have n5 := hD.1.2.2.2.2.2.1.1
  have i0 := (a n n0 (by omega)).1
  rw [hn] at i0
  exact ⟨a, by rw [zm_n_n n0 i0.symm]; exact b, zm_E_n n0 i0.symm c, zm_G_s d (fun q => absurd i0.symm q)⟩
/-- which ORDER the class takes for a node -/
theorem zm_ord {D : zq_S} (hD : zm_HH σ D) (n0 : 0 ≤ n) (n1 : n < D 0 37) (hk : τ (σ 255 1 + 1) n = σ (σ 255 1 + 1) n) (h73 : τ 273 n = zm_C D n) (ho : (τ (σ 255 1 + 1) n = 1 → zp_LM σ o (σ 3 3)) ∧ (τ (σ 255 1 + 1) n ≠ 1 → o = τ 273 n)) : o = zm_o D (zm_C D) (zx_lm D (D 0 3)) n := by
  have nd := (zp_W_nd hD.1 n0 n1).1
  rw [hk] at ho
  unfold zm_o
  by_cases k0 : D 21 n = 0
  · rw [if_pos k0, ho.1 (nd.mpr k0) D hD.1.1, hD.1.1.1]
  · rw [if_neg k0, ho.2 (fun q => k0 (nd.mp q)), h73]
theorem zm_MI_y (n0 : 0 ≤ n) (n1 : n < σ (σ 255 1) 5) (hn : τ 274 n ≠ -1) (e1 : ∀ i, τ (σ 255 1 + 1) i = σ (σ 255 1 + 1) i) (e2 : ∀ i, τ (σ 255 1 + 2) i = σ (σ 255 1 + 2) i) (e3 : ∀ i, τ (σ 255 1 + 3) i = σ (σ 255 1 + 3) i) (e4 : ∀ i, τ (σ 255 1 + 4) i = σ (σ 255 1 + 4) i) (ho : (τ (σ 255 1 + 1) n = 1 → zp_LM σ o (σ 3 3)) ∧ (τ (σ 255 1 + 1) n ≠ 1 → o = τ 273 n)) (f14 : τ (σ 10 o) 14 = σ (σ 10 o) 14) (f2 : τ (σ 10 o) 2 = σ (σ 10 o) 2) (fM : ∀ f, τ (σ 10 o + 1) f = σ (σ 10 o + 1) f) (hg : τ 274 n < zx_p2 (σ 3 1)) (p9 : π 255 9 = τ 255 9 + 1) (pw : π 275 (τ 255 9) = zm_cw τ (σ 255 1) n (σ 10 o)) (po : ∀ i, i ≠ τ 255 9 → π 275 i = τ 275 i) (p74 : ∀ i, π 274 i = τ 274 i) (p73 : ∀ i, π 273 i = τ 273 i) (h : zm_MI σ τ n) : zm_MI σ π (n + 1) := fun D hD hq => by
  obtain ⟨a, b, c, d⟩ := h D hD hq
  have n5 := hD.1.2.2.2.2.2.1.1
  have n2 : n < D 0 37 := by omega
  obtain ⟨i0, i1⟩ := a n n0 n2
  have hi : zm_It D (D 0 35) n ≠ -1 := by rw [← i0]; exact hn
  have oe := zm_ord hD n0 n2 (e1 n) i1 ho
  have w := zm_cw_w hD hq (fun i i0 i1 => (a i i0 i1).1) e2 e3 e4 n0 n2 hi oe f14 f2 fM
  refine ⟨fun i i0 i1 => by rw [p74, p73]; exact a i i0 i1, by rw [p9, zm_n_y n0 hi, b], zm_E_y n0 hi (by rw [← b, pw, w]) (fun i q => po i (by rw [b]; exact q)) c, zm_G_s d (fun _ => ?_)⟩
  rw [← i0, ← hD.2.2.2.1.1]
  exact hg
/-- a REGISTER that is not there -/
theorem zm_MI_f (n0 : 0 ≤ n) (n1 : n < σ (σ 255 1) 5) (hn : τ 274 n ≠ -1) (e1 : ∀ i, τ (σ 255 1 + 1) i = σ (σ 255 1 + 1) i) (ho : (τ (σ 255 1 + 1) n = 1 → zp_LM σ o (σ 3 3)) ∧ (τ (σ 255 1 + 1) n ≠ 1 → o = τ 273 n)) (hg : ¬ (0 ≤ o ∧ o < σ 3 3 ∧ τ 274 n < zx_p2 (σ 3 1) ∧ τ 255 9 < 64)) (h : zm_MI σ τ n) : ∀ D, zm_HH σ D → 0 ≤ zp_q D → ¬ zm_G (zm_It D (D 0 35)) (zx_p2 (D 0 1)) (D 0 37) := fun D hD hq z => by
  obtain ⟨a, b, c, d⟩ := h D hD hq
  obtain ⟨n5, -, n52⟩ := hD.1.2.2.2.2.2.1
  have n2 : n < D 0 37 := by omega
  obtain ⟨i0, i1⟩ := a n n0 n2
  have hi : zm_It D (D 0 35) n ≠ -1 := by rw [← i0]; exact hn
  have oe := zm_ord hD n0 n2 (e1 n) i1 ho
  have ob := zm_o_b hD hq n0 n2 hi oe
  have nb := zm_n_b (zm_It D (D 0 35)) n0
  refine hg ⟨ob.1, ob.2, ?_, by omega⟩
  have y := z n n0 n2 hi
  rw [i0, hD.2.2.2.1.1]
  exact y
end ZMMI
/-- what make answers, with a sum that is read -/
def zm_AR (σ τ : zq_S) (place r : Int) : Prop := ∀ D, zm_HH σ D → zm_res D place r (σ 139) (τ 139)
section ZMAR
variable {σ τ π : zq_S} {place r : Int}
theorem zm_AR_n (hp : 0 ≤ place ∧ place ≤ 63) (h1 : ∀ D, zp_W σ D (σ 255 1) → r = if zp_q D < 0 then -4 else zp_q D) (hr : r = -4) (hc : ∀ i, τ 139 i = σ 139 i) : zm_AR σ τ place (-4) := fun D hD => by
  have z := h1 D hD.1
  by_cases c : zp_q D < 0
  · exact zm_res_p hp hD.2.2.2.1.2.2 c rfl hc
  · rw [if_neg c] at z
    omega
theorem zm_AR_q {D : zq_S} (hD : zm_HH σ D) (h1 : ∀ D, zp_W σ D (σ 255 1) → r = if zp_q D < 0 then -4 else zp_q D) (hr : r ≠ -4) : 0 ≤ zp_q D := by
  have z := h1 D hD.1
  by_cases c : zp_q D < 0
  · rw [if_pos c] at z
    exact absurd z hr
  · omega
theorem zm_AR_f {r1 : Int} (hp : 0 ≤ place ∧ place ≤ 63) (h1 : ∀ D, zp_W σ D (σ 255 1) → r1 = if zp_q D < 0 then -4 else zp_q D) (hr : r1 ≠ -4) (hg : ∀ D, zm_HH σ D → 0 ≤ zp_q D → ¬ (zm_G (zm_It D (D 0 35)) (zx_p2 (D 0 1)) (D 0 37) ∧ place + zm_n (zm_It D (D 0 35)) (D 0 37) ≤ 64)) (hc : ∀ i, τ 139 i = σ 139 i) : zm_AR σ τ place (-3) := fun D hD => by
  have q := zm_AR_q hD h1 hr
  exact zm_res_f hp hD.2.2.2.1.2.2 q (hg D hD q) rfl hc
theorem zm_AR_y {r1 : Int} (hp : 0 ≤ place ∧ place ≤ 63) (h1 : ∀ D, zp_W σ D (σ 255 1) → r1 = if zp_q D < 0 then -4 else zp_q D) (hr : r1 ≠ -4) (hM : zm_MI σ π (σ (σ 255 1) 5)) (h64 : place + π 255 9 ≤ 64) (hc : ∀ i, 0 ≤ i → i < 64 → τ 139 i = if place ≤ i ∧ i < place + π 255 9 then π 275 (i - place) else σ 139 i) : zm_AR σ τ place (π 255 9) := fun D hD => by
  have q := zm_AR_q hD h1 hr
  have n5 := hD.1.2.2.2.2.2.1.1
  rw [n5] at hM
  obtain ⟨a, b, c, d⟩ := hM D hD q
  exact zm_res_y (M := π 275) hp hD.2.2.2.1.2.2 q ⟨d, by omega⟩ b c (fun i i0 i1 => by rw [← b]; exact hc i i0 i1)
theorem zm_AR_fl {r1 : Int} (hp : 0 ≤ place ∧ place ≤ 63) (h1 : ∀ D, zp_W σ D (σ 255 1) → r1 = if zp_q D < 0 then -4 else zp_q D) (hr : r1 ≠ -4) (hM : zm_MI σ π (σ (σ 255 1) 5)) (h64 : ¬ place + π 255 9 ≤ 64) (hc : ∀ i, τ 139 i = σ 139 i) : zm_AR σ τ place (-3) := zm_AR_f hp h1 hr (fun D hD q z => by
  have n5 := hD.1.2.2.2.2.2.1.1
  rw [n5] at hM
  obtain ⟨a, b, c, d⟩ := hM D hD q
  have := z.2
  omega) hc
end ZMAR
/-- frames of the loop: ORDERS and the sum stay -/
theorem zm_H_of {σ τ D : zq_S} {t : Int} (hf : zc_Fr [(272, -1), (273, -1)] σ τ) (hT : zc_T σ) (kt : zc_kd t = 256) (et : σ 255 1 = t) (hP : zp_PS σ τ t (σ t 5)) (hD : zm_HH σ D) (hq : 0 ≤ zp_q D) : zm_H τ D t := by
  have hW := hD.1
  rw [et] at hW
  have n5 := hW.2.2.2.2.2.1.1
  have g35 := zx_g35 hD.2.1
  have e4 := hf 255 4 (zc_out_at zc_s255 rfl)
  have h254 := hD.2.2.2.1.2.1
  rw [n5] at hP
  exact ⟨zp_W_fr hf hT kt hW, fun j j0 j1 => (hP D hW j j0 j1).2, hq, (zx_g3 hD.2.1).1, by omega⟩
theorem zp_T_frM {σ τ D : zq_S} (hf : zc_Fr [(139, -1), (255, 9), (272, -1), (273, -1), (274, -1), (275, -1)] σ τ) (hT : zc_T σ) (h : zp_T σ D) : zp_T τ D := by
  have z3 := zc_g3_3 hT zc_s3
  have e3 := hf 3 3 (zc_out_at zc_s3 rfl)
  refine ⟨by rw [e3]; exact h.1, fun o o0 o1 => ?_⟩
  rw [e3] at o1
  have ka := zc_ga10 hT zc_s10 o o0 (by omega)
  rw [hf 10 o (zc_out_ar zc_s10 rfl), hf _ 11 (zc_out_at ka rfl), hf _ 14 (zc_out_at ka rfl), hf _ 0 (zc_out_ar (zc_p4_4 ka) rfl), hf _ 3 (zc_out_ar (zc_p4_1 ka) rfl)]
  exact h.2 o o0 o1
theorem zq_cell_s (σ : zq_S) (a i : Int) (f : Int → Int) : zq_cell σ a f a i = f i := by simp [zq_cell]
