/-! ===== make: its beginning and its end ===== -/
theorem zm_n_z {I : Int → Int} {p : Int} (p0 : 0 ≤ p) (h : ∀ j, 0 ≤ j → j < p → I j = -1) : zm_n I p = 0 := by
  obtain ⟨k, rfl⟩ := Int.eq_ofNat_of_zero_le p0
  induction k with
  | zero => rfl
  | succ k ih =>
    rw [show ((k + 1 : Nat) : Int) = (k : Int) + 1 by omega, zm_n_n (by omega) (h k (by omega) (by omega))]
    exact ih (by omega) (fun j j0 j1 => h j j0 (by omega))
theorem zm_E_z {I w M : Int → Int} {p : Int} (h : zm_n I p = 0) : zm_E I w M p := fun i i0 i1 => absurd i1 (by omega)
theorem zm_G_z {I : Int → Int} {g p : Int} (h : ∀ j, 0 ≤ j → j < p → I j = -1) : zm_G I g p := fun j j0 j1 hj => absurd (h j j0 j1) hj
section ZME
variable {D σ : zq_S} {f : Int → Int} {v : Int}
/-- the first job -/
theorem zm_X_0 (hK : zm_K D v) (ht : zx_tree (D 21) (D 23) (D 24) f (D 0 37)) (h37 : 1 ≤ D 0 37) (h59 : σ 0 59 = 1) (h34 : σ 34 0 = D 0 37 - 1) (h35 : σ 35 0 = v) (h36 : σ 36 0 = 0) (h54 : σ 0 54 = 0) (h55 : σ 0 55 = 1) (hv : 0 ≤ v) : zm_X D f v σ := by
  have ps : zm_pos D f σ = f (D 0 37 - 1) := by
    rw [zm_pos_top (by omega), h59]
    unfold zx_pt
    rw [show (1 : Int) - 1 = 0 by omega, if_pos h36, h34]
  have f0 := (ht (D 0 37 - 1) (by omega) (by omega)).1
  have no : ∀ j, 0 ≤ j → j < f (D 0 37 - 1) → zm_It D v j = -1 := fun j j0 j1 => by
    by_cases c : zm_It D v j = -1
    · exact c
    · have := (hK.1.2.2.2.2 j c f ht).1
      omega
  have nz := zm_n_z f0 no
  have iv : zm_It D v (D 0 37 - 1) = v := hK.1.1
  refine ⟨⟨fun i i0 i1 => ?_, fun _ => h34⟩, by rw [ps, nz]; exact h54, by rw [ps]; exact zm_E_z nz, fun _ => by rw [ps]; exact zm_G_z no, fun q => absurd h55 q⟩
  rw [show i = 0 by omega, h34, h35, iv]
  exact ⟨rfl, by omega⟩
/-- all is put, or some REGISTER is not there -/
def zm_Z (D : zq_S) (v : Int) (σ : zq_S) : Prop := (σ 0 55 = 1 → zm_G (zm_It D v) (zx_p2 (D 0 1)) (D 0 37) ∧ σ 0 54 = zm_n (zm_It D v) (D 0 37) ∧ zm_E (zm_It D v) (zm_Wt D v) (σ 33) (D 0 37)) ∧ (σ 0 55 ≠ 1 → ¬ zm_G (zm_It D v) (zx_p2 (D 0 1)) (D 0 37))
theorem zm_Z_of (hX : zm_X D f v σ) (h : ¬ 0 < σ 0 59 ∨ σ 0 55 ≠ 1) : zm_Z D v σ := by
  obtain ⟨x1, x2, x3, x4, x5⟩ := hX
  by_cases c : σ 0 55 = 1
  · have ps : zm_pos D f σ = D 0 37 := if_neg (by omega)
    rw [ps] at x2 x3 x4
    exact ⟨fun q => ⟨x4 q, x2, x3⟩, x5⟩
  · exact ⟨fun q => absurd q c, x5⟩
/-- but a variable -/
theorem zm_Z_v (hK : zm_K D v) (ht : zx_tree (D 21) (D 23) (D 24) f (D 0 37)) (h37 : 1 ≤ D 0 37) (k0 : D 21 (D 0 37 - 1) = 0) (hv : 0 ≤ v) (h54 : σ 0 54 = 1) (h33 : σ 33 0 = zu_rbt D (zx_lm D (D 0 3)) (zm_v v (D 22 (D 0 37 - 1)) 0 0) (D 0 2)) (h55 : σ 0 55 = 1 ↔ v < zx_p2 (D 0 1) ∧ D 22 (D 0 37 - 1) < zx_p2 (D 0 1) ∧ 0 < zx_p2 (D 0 1)) : zm_Z D v σ := by
  have fr := (ht (D 0 37 - 1) (by omega) (by omega)).2.2.2 (by omega)
  have no : ∀ j, 0 ≤ j → j < D 0 37 - 1 → zm_It D v j = -1 := fun j j0 j1 => by
    by_cases c : zm_It D v j = -1
    · exact c
    · have := (hK.1.2.2.2.2 j c f ht).1
      omega
  have nz := zm_n_z (show 0 ≤ D 0 37 - 1 by omega) no
  have iv : zm_It D v (D 0 37 - 1) = v := hK.1.1
  have ne : zm_It D v (D 0 37 - 1) ≠ -1 := by omega
  have n1 := zm_n_y (show 0 ≤ D 0 37 - 1 by omega) ne
  rw [show D 0 37 - 1 + 1 = D 0 37 by omega, nz] at n1
  have t8 := hK.2.2.1 (D 0 37 - 1) (by omega) (by omega) k0
  have pp := zx_p2_pos (D 0 1)
  have e := zm_E_y (w := zm_Wt D v) (M := σ 33) (M' := σ 33) (show 0 ≤ D 0 37 - 1 by omega) ne (by rw [nz, zm_Wt_0 k0, iv]; exact h33) (fun i _ => rfl) (zm_E_z nz)
  rw [show D 0 37 - 1 + 1 = D 0 37 by omega] at e
  have g : v < zx_p2 (D 0 1) → zm_G (zm_It D v) (zx_p2 (D 0 1)) (D 0 37) := fun q => by
    have z := zm_G_s (g := zx_p2 (D 0 1)) (zm_G_z no) (fun _ => by rw [iv]; exact q)
    rw [show D 0 37 - 1 + 1 = D 0 37 by omega] at z
    exact z
  refine ⟨fun q => ⟨g (h55.mp q).1, by rw [n1]; exact h54, e⟩, fun q z => q (h55.mpr ⟨?_, t8, by omega⟩)⟩
  have := z _ (by omega) (by omega) ne
  omega
end ZME
/-- what make answers, and CODE behind it -/
def zm_res (D : zq_S) (place r : Int) (c c' : Int → Int) : Prop :=
  (¬ (0 ≤ place ∧ place ≤ 63) → r = -1 ∧ ∀ i, c' i = c i) ∧ (0 ≤ place ∧ place ≤ 63 → (D 0 36 ≠ 1 → r = -2 ∧ ∀ i, c' i = c i) ∧ (D 0 36 = 1 → (zp_q D < 0 → r = -4 ∧ ∀ i, c' i = c i) ∧ (0 ≤ zp_q D →
  (zm_G (zm_It D (D 0 35)) (zx_p2 (D 0 1)) (D 0 37) ∧ place + zm_n (zm_It D (D 0 35)) (D 0 37) ≤ 64 → r = zm_n (zm_It D (D 0 35)) (D 0 37) ∧ ∀ i, 0 ≤ i → i < 64 → c' i = if place ≤ i ∧ i < place + zm_n (zm_It D (D 0 35)) (D 0 37) then zm_m (zm_It D (D 0 35)) (zm_Wt D (D 0 35)) (D 0 37) (i - place) else c i) ∧
  (¬ (zm_G (zm_It D (D 0 35)) (zx_p2 (D 0 1)) (D 0 37) ∧ place + zm_n (zm_It D (D 0 35)) (D 0 37) ≤ 64) → r = -3 ∧ ∀ i, c' i = c i))))
def zm_V8 (D : zq_S) : Prop := D 0 36 = 1 → ∀ i, 0 ≤ i → i < D 0 37 → D 21 i = 0 → D 22 i < zx_p2 (D 0 1)
section ZMR
variable {D : zq_S} {place r : Int} {c c' : Int → Int}
theorem zm_res_b (h : ¬ (0 ≤ place ∧ place ≤ 63)) (hr : r = -1) (hc : ∀ i, c' i = c i) : zm_res D place r c c' := ⟨fun _ => ⟨hr, hc⟩, fun q => absurd q h⟩
theorem zm_res_n (h : 0 ≤ place ∧ place ≤ 63) (h36 : D 0 36 ≠ 1) (hr : r = -2) (hc : ∀ i, c' i = c i) : zm_res D place r c c' := ⟨fun q => absurd h q, fun _ => ⟨fun _ => ⟨hr, hc⟩, fun q => absurd q h36⟩⟩
theorem zm_res_p (h : 0 ≤ place ∧ place ≤ 63) (h36 : D 0 36 = 1) (hq : zp_q D < 0) (hr : r = -4) (hc : ∀ i, c' i = c i) : zm_res D place r c c' := ⟨fun q => absurd h q, fun _ => ⟨fun q => absurd h36 q, fun _ => ⟨fun _ => ⟨hr, hc⟩, fun q => absurd q (by omega)⟩⟩⟩
theorem zm_res_f (h : 0 ≤ place ∧ place ≤ 63) (h36 : D 0 36 = 1) (hq : 0 ≤ zp_q D) (hg : ¬ (zm_G (zm_It D (D 0 35)) (zx_p2 (D 0 1)) (D 0 37) ∧ place + zm_n (zm_It D (D 0 35)) (D 0 37) ≤ 64)) (hr : r = -3) (hc : ∀ i, c' i = c i) : zm_res D place r c c' := ⟨fun q => absurd h q, fun _ => ⟨fun q => absurd h36 q, fun _ => ⟨fun q => absurd q (by omega), fun _ => ⟨fun q => absurd q hg, fun _ => ⟨hr, hc⟩⟩⟩⟩⟩
theorem zm_res_y (h : 0 ≤ place ∧ place ≤ 63) (h36 : D 0 36 = 1) (hq : 0 ≤ zp_q D) (hg : zm_G (zm_It D (D 0 35)) (zx_p2 (D 0 1)) (D 0 37) ∧ place + zm_n (zm_It D (D 0 35)) (D 0 37) ≤ 64) (hr : r = zm_n (zm_It D (D 0 35)) (D 0 37)) {M : Int → Int} (hE : zm_E (zm_It D (D 0 35)) (zm_Wt D (D 0 35)) M (D 0 37)) (hc : ∀ i, 0 ≤ i → i < 64 → c' i = if place ≤ i ∧ i < place + zm_n (zm_It D (D 0 35)) (D 0 37) then M (i - place) else c i) : zm_res D place r c c' := by
  refine ⟨fun q => absurd h q, fun _ => ⟨fun q => absurd h36 q, fun _ => ⟨fun q => absurd q (by omega), fun _ => ⟨fun _ => ⟨hr, fun i i0 i1 => ?_⟩, fun q => absurd hg q⟩⟩⟩⟩
  rw [hc i i0 i1]
  by_cases z : place ≤ i ∧ i < place + zm_n (zm_It D (D 0 35)) (D 0 37)
  · rw [if_pos z, if_pos z]
    exact hE (i - place) (by omega) (by omega)
  · rw [if_neg z, if_neg z]
/-- two answers, two CODES: alike -/
theorem zm_res_u {r2 : Int} {d d' : Int → Int} (h : zm_res D place r c c') (k : zm_res D place r2 d d') (hcd : ∀ i, 0 ≤ i → i < 64 → d i = c i) : r2 = r ∧ ∀ i, 0 ≤ i → i < 64 → d' i = c' i := by
  by_cases b : 0 ≤ place ∧ place ≤ 63
  · have h := h.2 b
    have k := k.2 b
    by_cases b2 : D 0 36 = 1
    · have h := h.2 b2
      have k := k.2 b2
      by_cases b3 : zp_q D < 0
      · have h := h.1 b3
        have k := k.1 b3
        exact ⟨by omega, fun i i0 i1 => by rw [h.2 i, k.2 i]; exact hcd i i0 i1⟩
      · have h := h.2 (by omega)
        have k := k.2 (by omega)
        by_cases b4 : zm_G (zm_It D (D 0 35)) (zx_p2 (D 0 1)) (D 0 37) ∧ place + zm_n (zm_It D (D 0 35)) (D 0 37) ≤ 64
        · have h := h.1 b4
          have k := k.1 b4
          exact ⟨by omega, fun i i0 i1 => by rw [h.2 i i0 i1, k.2 i i0 i1, hcd i i0 i1]⟩
        · have h := h.2 b4
          have k := k.2 b4
          exact ⟨by omega, fun i i0 i1 => by rw [h.2 i, k.2 i]; exact hcd i i0 i1⟩
    · have h := h.1 b2
      have k := k.1 b2
      exact ⟨by omega, fun i i0 i1 => by rw [h.2 i, k.2 i]; exact hcd i i0 i1⟩
  · have h := h.1 b
    have k := k.1 b
    exact ⟨by omega, fun i i0 i1 => by rw [h.2 i, k.2 i]; exact hcd i i0 i1⟩
end ZMR
