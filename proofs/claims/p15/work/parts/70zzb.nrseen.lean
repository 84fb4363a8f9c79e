/-! ===== the narrow machine: which stores are read ===== -/
section ZNS
variable {A : Int → Int} {o g d n x v r kept same first left : Int} {σ μ τ : zq_S} {s : Int → Int}
/-- what slot y is, slot x being u at first -/
noncomputable def zn_ou (A : Int → Int) (o g d n x : Int) (s : Int → Int) (u y : Int) : Int := zn_o A o g d n (zw_up s x u) y
def zn_sI (A : Int → Int) (o g d n x : Int) (μ : zq_S) (v kept same first : Int) : Prop := ∀ s, zn_st s → zn_A μ s → (0 < v → first = zn_ou A o g d n x s 0 x ∧ ∀ y, 0 ≤ y → y ≤ 8 → zn_fv μ (zw_up s x 0) y = zn_ou A o g d n x s 0 y) ∧ (kept = 1 ↔ ∀ u, 0 ≤ u → u < v → zn_ou A o g d n x s u x = u) ∧ (same = 1 ↔ ∀ u, 0 ≤ u → u < v → zn_ou A o g d n x s u x = zn_ou A o g d n x s 0 x) ∧ ∀ u, 0 ≤ u → u < v → ∀ y, 0 ≤ y → y ≤ 8 → y ≠ x → zn_ou A o g d n x s 0 y = zn_ou A o g d n x s u y
def zn_sJ (A : Int → Int) (o g d n x : Int) (μ : zq_S) (v kept same first left : Int) : Prop := ∀ s, zn_st s → zn_A μ s → (first = zn_ou A o g d n x s 0 x ∧ ∀ y, 0 ≤ y → y ≤ 8 → zn_fv μ (zw_up s x 0) y = zn_ou A o g d n x s 0 y) ∧ left = zn_ou A o g d n x s v x ∧ (kept = 1 ↔ ∀ u, 0 ≤ u → u < v → zn_ou A o g d n x s u x = u) ∧ (same = 1 ↔ ∀ u, 0 ≤ u → u < v → zn_ou A o g d n x s u x = zn_ou A o g d n x s 0 x) ∧ ∀ u, 0 ≤ u → u < v + 1 → ∀ y, 0 ≤ y → y ≤ 8 → y ≠ x → zn_ou A o g d n x s 0 y = zn_ou A o g d n x s u y
theorem zn_sI_0 : zn_sI A o g d n x μ 0 1 1 0 := fun s _ _ => ⟨fun h => absurd h (by decide), ⟨fun _ u u0 u1 => absurd u1 (by omega), fun _ => rfl⟩, ⟨fun _ u u0 u1 => absurd u1 (by omega), fun _ => rfl⟩, fun u u0 u1 => absurd u1 (by omega)⟩
theorem zn_sJ_s {kept' same' : Int} (v0 : 0 ≤ v) (h : zn_sJ A o g d n x μ v kept same first left) (hk : kept' = 1 ↔ kept = 1 ∧ left = v) (hs : same' = 1 ↔ same = 1 ∧ left = first) : zn_sI A o g d n x μ (v + 1) kept' same' first := fun s st a => by
  obtain ⟨h1, h2, h3, h4, h5⟩ := h s st a
  refine ⟨fun _ => h1, ?_, ?_, h5⟩
  · rw [hk, h3]
    constructor
    · rintro ⟨q, e⟩ u u0 u1
      by_cases c : u = v
      · rw [c, ← h2]; exact e
      · exact q u u0 (by omega)
    · intro q
      exact ⟨fun u u0 u1 => q u u0 (by omega), by rw [h2]; exact q v v0 (by omega)⟩
  · rw [hs, h4]
    constructor
    · rintro ⟨q, e⟩ u u0 u1
      by_cases c : u = v
      · rw [c, ← h2, ← h1.1]; exact e
      · exact q u u0 (by omega)
    · intro q
      exact ⟨fun u u0 u1 => q u u0 (by omega), by rw [h2, h1.1]; exact q v v0 (by omega)⟩
theorem zn_un_ou {u w : Int} : zn_un A o g d n x (zw_up s x u) (zw_up s x w) u w ↔ (∃ y, 0 ≤ y ∧ y ≤ 8 ∧ y ≠ x ∧ zn_ou A o g d n x s u y ≠ zn_ou A o g d n x s w y) ∨ (zn_ou A o g d n x s u x ≠ zn_ou A o g d n x s w x ∧ (zn_ou A o g d n x s u x ≠ u ∨ zn_ou A o g d n x s w x ≠ w)) := Iff.rfl
theorem zn_rs_2 {u w : Int} (u0 : 0 ≤ u) (u1 : u < zn_v x) (w0 : 0 ≤ w) (w1 : w < zn_v x) (h : zn_ou A o g d n x s u x ≠ zn_ou A o g d n x s w x) (q : zn_ou A o g d n x s u x ≠ u ∨ zn_ou A o g d n x s w x ≠ w) : zn_rs A o g d n x s := by
  by_cases c : u < w
  · exact ⟨u, w, u0, c, w1, zn_un_ou.mpr (Or.inr ⟨h, q⟩)⟩
  · have c2 : w < u := by
      by_cases e : u = w
      · rw [e] at h; exact absurd rfl h
      · omega
    exact ⟨w, u, w0, c2, u1, zn_un_ou.mpr (Or.inr ⟨fun e => h e.symm, q.symm⟩)⟩
theorem zn_sI_e (h : zn_sI A o g d n x μ (zn_v x) kept same first) (hr : r = 1 ↔ kept ≠ 1 ∧ same ≠ 1) : ∀ s, zn_st s → zn_A μ s → (r = 1 ↔ zn_rs A o g d n x s) := fun s st a => by
  obtain ⟨-, h3, h4, h5⟩ := h s st a
  have v := zn_v_b x
  rw [hr]
  constructor
  · rintro ⟨k, m⟩
    have k2 : ∃ u, 0 ≤ u ∧ u < zn_v x ∧ zn_ou A o g d n x s u x ≠ u := Classical.byContradiction (fun q => k (h3.mpr (fun u u0 u1 => Classical.byContradiction (fun z => q ⟨u, u0, u1, z⟩))))
    have m2 : ∃ u, 0 ≤ u ∧ u < zn_v x ∧ zn_ou A o g d n x s u x ≠ zn_ou A o g d n x s 0 x := Classical.byContradiction (fun q => m (h4.mpr (fun u u0 u1 => Classical.byContradiction (fun z => q ⟨u, u0, u1, z⟩))))
    obtain ⟨u, u0, u1, ku⟩ := k2
    obtain ⟨w, w0, w1, mw⟩ := m2
    by_cases c : zn_ou A o g d n x s u x = zn_ou A o g d n x s w x
    · exact zn_rs_2 (w := 0) u0 u1 (Int.le_refl 0) (by omega) (by rw [c]; exact mw) (Or.inl ku)
    · exact zn_rs_2 u0 u1 w0 w1 c (Or.inl ku)
  · rintro ⟨u, w, u0, uw, w1, q⟩
    rcases zn_un_ou.mp q with ⟨y, y0, y8, yx, q⟩ | ⟨q1, q2⟩
    · exact absurd ((h5 u u0 (by omega) y y0 y8 yx).symm.trans (h5 w (by omega) w1 y y0 y8 yx)) q
    · refine ⟨fun k => ?_, fun m => ?_⟩
      · have z := h3.mp k
        rcases q2 with q2 | q2
        · exact q2 (z u u0 (by omega))
        · exact q2 (z w (by omega) w1)
      · have z := h4.mp m
        exact q1 ((z u u0 (by omega)).trans (z w (by omega) w1).symm)
/-- unlike: store x is read -/
theorem zn_rs_1 {y : Int} (v0 : 0 < v) (v1 : v < zn_v x) (y0 : 0 ≤ y) (y8 : y ≤ 8) (yx : y ≠ x) (h : zn_ou A o g d n x s 0 y ≠ zn_ou A o g d n x s v y) : zn_rs A o g d n x s := ⟨0, v, by decide, v0, v1, zn_un_ou.mpr (Or.inl ⟨y, y0, y8, yx, h⟩)⟩
/-! the turn of one value -/
theorem zn_set {f : Int} (w : zn_W f σ) (f9 : 0 ≤ f ∧ f ≤ 9) (hv : 0 ≤ v ∧ v < zn_v f) (e : τ = zq_up σ 135 f v) : zn_W f τ ∧ zn_fs f τ ∧ zn_K τ = zn_K σ ∧ (∀ s, zn_R τ s ↔ zn_R σ s) ∧ (∀ s, zn_A τ s ↔ zn_A σ s) := by
  have hal : ∀ y, τ 135 y = if y = f then v else σ 135 y := fun y => by
    rw [e]
    by_cases c : y = f
    · rw [if_pos c, c, zq_up_same]
    · rw [if_neg c, zq_up_ne (by omega)]
  have k5 : τ 134 5 = σ 134 5 := by rw [e, zq_up_ne (by omega)]
  have k0 : τ 134 0 = σ 134 0 := by rw [e, zq_up_ne (by omega)]
  have h138 : τ 138 = σ 138 := funext (fun i => by rw [e, zq_up_ne (by omega)])
  obtain ⟨p1, p2, p3⟩ := zn_wA_f (v := v) w.2 hal
  have ne : ∀ j, 0 ≤ j → j < σ 134 5 → τ 135 (σ 138 j) = σ 135 (σ 138 j) := fun j j0 j1 => by rw [hal, if_neg (w.2.2.1 j j0 j1).1.2.2]
  refine ⟨⟨by rw [k0]; exact w.1, by rw [k5, h138]; exact p1⟩, fun _ _ => by rw [hal, if_pos rfl]; exact hv, ?_, fun s => ?_, fun s => ?_⟩
  · unfold zn_K; rw [k5, h138]; exact p2
  · unfold zn_R; rw [k5, h138]; exact p3 s
  · unfold zn_A zn_aA
    rw [k5, h138]
    exact ⟨fun q i i0 i1 => by rw [← ne i i0 i1]; exact q i i0 i1, fun q i i0 i1 => by rw [ne i i0 i1]; exact q i i0 i1⟩
/-- s with slot f as it is set is all that stands -/
theorem zn_cp_f {f : Int} (w : zn_W f σ) (hv : σ 135 f = v) (a : zn_A σ s) : zn_cp σ (zw_up s f v) := zn_cp_A w (fun i i0 i1 => by
  show (if σ 138 i = f then v else s (σ 138 i)) = _
  rw [if_neg (w.2.2.1 i i0 i1).1.2.2]
  exact a i i0 i1) (fun _ _ => by show (if f = f then v else s f) = _; rw [if_pos rfl, hv])
/-- what is known behind the ORDER done with slot x as v: ν -/
theorem zn_tv {s27 s38 s43 : zq_S} (x8 : 0 ≤ x ∧ x ≤ 8) (hv : 0 ≤ v ∧ v < zn_v x) (w27 : zn_W x s27) (f27 : zn_fs x s27) (e27 : s27 135 x = v) (q38 : zn_G s27 s38 ∧ zn_Bh s38 ∧ ∀ s, zn_st s → zn_cp s38 s → ∀ y, 0 ≤ y → y ≤ 8 → zn_cv s38 s y = zn_o A o g d n s y) (q43 : zn_G s38 s43 ∧ (0 ≤ left ∧ left < zn_v x) ∧ ∀ s, zn_cp s43 s → left = zn_cv s38 s x) : (zn_W x s43 ∧ zn_fs x s43 ∧ s43 135 x = v ∧ zn_K s43 = zn_K s27 ∧ (∀ s, zn_st s → zn_R s27 s → zn_R s43 s) ∧ (∀ s, zn_A s43 s → zn_A s27 s)) ∧ ∀ s, zn_st s → zn_A s43 s → left = zn_ou A o g d n x s v x ∧ ∀ y, 0 ≤ y → y ≤ 8 → zn_cv s38 (zw_up s x v) y = zn_ou A o g d n x s v y := by
  obtain ⟨g1, b1, k1⟩ := q38
  obtain ⟨g2, b2, k2⟩ := q43
  have w38 := g1.1 x w27 f27
  have f38 := zn_fs_X g1.2 f27
  have w43 := g2.1 x w38 f38
  have f43 := zn_fs_X g2.2 f38
  have e38 : s38 135 x = v := by rw [g1.2.2.2.1 x x8.1 (by omega) (by omega)]; exact e27
  have e43 : s43 135 x = v := by rw [g2.2.2.2.1 x x8.1 (by omega) (by omega)]; exact e38
  refine ⟨⟨w43, f43, e43, by rw [zn_K_G w38 g2, zn_K_G w27 g1], fun s hs r => zn_R_G w38 f38 g2 hs (zn_R_G w27 f27 g1 hs r), fun s a => zn_A_G w27 g1 (zn_A_G w38 g2 a)⟩, fun s hs a => ?_⟩
  have c43 := zn_cp_f w43 e43 a
  have c38 := zn_cp_f w38 e38 (zn_A_G w38 g2 a)
  have st := zn_st_up (x := x) hs hv
  have key := k1 _ st c38
  exact ⟨(k2 _ c43).trans (key x x8.1 x8.2), fun y y0 y8 => key y y0 y8⟩
/-- value 0: what is behind it is kept -/
theorem zn_t0 {s43 s69 s38 : zq_S} (h : ∀ s, zn_st s → zn_A s43 s → left = zn_ou A o g d n x s 0 x ∧ ∀ y, 0 ≤ y → y ≤ 8 → zn_cv s38 (zw_up s x 0) y = zn_ou A o g d n x s 0 y) (h3 : zn_sI A o g d n x μ 0 kept same first) (hA : ∀ s, zn_A s69 s → zn_A s43 s ∧ zn_A μ s) (cp : ∀ y, 0 ≤ y → y ≤ 8 → s69 137 y = s38 136 y) : zn_sJ A o g d n x s69 0 kept same left left := fun s hs a => by
  obtain ⟨a1, a2⟩ := hA s a
  obtain ⟨e1, e2⟩ := h s hs a1
  obtain ⟨-, p3, p4, -⟩ := h3 s hs a2
  refine ⟨⟨e1, fun y y0 y8 => ?_⟩, e1, p3, p4, fun u u0 u1 y y0 y8 yx => by rw [show u = 0 by omega]⟩
  rw [← e2 y y0 y8]
  show (if s69 137 y ≠ -1 then s69 137 y else zw_up s x 0 y) = if y ≤ 8 ∧ s38 136 y ≠ -1 then s38 136 y else zw_up s x 0 y
  rw [cp y y0 y8]
  by_cases c : s38 136 y ≠ -1
  · rw [if_pos c, if_pos ⟨y8, c⟩]
  · rw [if_neg c, if_neg (fun q => c q.2)]
/-- another value -/
theorem zn_tu {s43 s77 s38 : zq_S} (v0 : 0 < v) (hv : v < zn_v x) (w43 : zn_W x s43) (f43 : zn_fs x s43) (e43 : s43 135 x = v) (x8 : 0 ≤ x ∧ x ≤ 8) (h : ∀ s, zn_st s → zn_A s43 s → left = zn_ou A o g d n x s v x ∧ ∀ y, 0 ≤ y → y ≤ 8 → zn_cv s38 (zw_up s x v) y = zn_ou A o g d n x s v y) (h3 : zn_sI A o g d n x μ v kept same first) (hA : ∀ s, zn_A s43 s → zn_A μ s) (h136 : ∀ i, s43 136 i = s38 136 i) (h137 : ∀ i, s43 137 i = μ 137 i) (q : zn_G s43 s77 ∧ zn_ul s43 s77 x r) : (r = 1 → ∀ s, zn_st s → zn_A s77 s → zn_rs A o g d n x s) ∧ (∀ i, s77 137 i = s43 137 i → s77 137 i = μ 137 i) ∧ (r ≠ 1 → (∀ i, s77 137 i = μ 137 i) → zn_sJ A o g d n x s77 v kept same first left) := by
  obtain ⟨g1, ul⟩ := q
  have w77 := g1.1 x w43 f43
  have e77 : s77 135 x = v := by rw [g1.2.2.2.1 x x8.1 (by omega) (by omega)]; exact e43
  have main : ∀ s, zn_st s → zn_A s77 s → (r = 1 ↔ ∃ y, 0 ≤ y ∧ y ≤ 8 ∧ y ≠ x ∧ zn_ou A o g d n x s 0 y ≠ zn_ou A o g d n x s v y) := fun s hs a => by
    have a43 := zn_A_G w43 g1 a
    have k := ul _ (zn_st_up (x := x) hs ⟨by omega, hv⟩) (zn_cp_f w77 e77 a)
    obtain ⟨-, e2⟩ := h s hs a43
    obtain ⟨p1, -⟩ := h3 s hs (hA s a43)
    have p2 := (p1 v0).2
    have fe : ∀ y, 0 ≤ y → y ≤ 8 → y ≠ x → zn_fv s43 (zw_up s x v) y = zn_ou A o g d n x s 0 y := fun y y0 y8 yx => by
      rw [← p2 y y0 y8]
      show (if s43 137 y ≠ -1 then s43 137 y else if y = x then v else s y) = if μ 137 y ≠ -1 then μ 137 y else if y = x then 0 else s y
      rw [h137, if_neg yx, if_neg yx]
    have ce : ∀ y, 0 ≤ y → y ≤ 8 → zn_cv s43 (zw_up s x v) y = zn_ou A o g d n x s v y := fun y y0 y8 => by rw [zn_cv_c h136]; exact e2 y y0 y8
    rw [k]
    constructor
    · rintro ⟨y, y0, y8, yx, z⟩
      rw [fe y y0 y8 yx, ce y y0 y8] at z
      exact ⟨y, y0, y8, yx, z⟩
    · rintro ⟨y, y0, y8, yx, z⟩
      exact ⟨y, y0, y8, yx, by rw [fe y y0 y8 yx, ce y y0 y8]; exact z⟩
  refine ⟨fun hr s hs a => ?_, fun i e => e.trans (h137 i), fun hr e137 s hs a => ?_⟩
  · obtain ⟨y, y0, y8, yx, z⟩ := (main s hs a).mp hr
    exact zn_rs_1 v0 hv y0 y8 yx z
  · have a43 := zn_A_G w43 g1 a
    obtain ⟨e1, -⟩ := h s hs a43
    obtain ⟨p1, p3, p4, p5⟩ := h3 s hs (hA s a43)
    have ff : zn_fv s77 (zw_up s x 0) = zn_fv μ (zw_up s x 0) := by
      unfold zn_fv
      rw [show s77 137 = μ 137 from funext e137]
    refine ⟨⟨(p1 v0).1, by rw [ff]; exact (p1 v0).2⟩, e1, p3, p4, fun u u0 u1 y y0 y8 yx => ?_⟩
    by_cases c : u = v
    · rw [c]
      exact Classical.byContradiction (fun z => hr ((main s hs a).mpr ⟨y, y0, y8, yx, z⟩))
    · exact p5 u u0 (by omega) y y0 y8 yx
theorem zn_and01 {a : Int} (h : a = 0 ∨ a = 1) : zq_and a 1 = a ∧ zq_and a 0 = 0 := by
  rcases h with rfl | rfl <;> exact ⟨rfl, rfl⟩
/-- all of it -/
def zn_seen (A : Int → Int) (o g d n x : Int) (σ τ : zq_S) (r : Int) : Prop := (zn_W x τ ∧ zn_fs x τ) ∧ zn_K τ = zn_K σ ∧ (∀ s, zn_st s → zn_R σ s → zn_R τ s) ∧ ∀ s, zn_st s → zn_A τ s → (r = 1 ↔ zn_rs A o g d n x s)
/-- some state is what is asked -/
theorem zn_A_some {f : Int} (w : zn_W f σ) (k : zn_fs f σ) : ∃ s, zn_st s ∧ zn_A σ s := by
  obtain ⟨s, hs, hc⟩ := zn_some w.2 k
  exact ⟨s, hs, fun i i0 i1 => by have y := w.2.2.1 i i0 i1; exact hc _ y.1.1 y.1.2.1 (by omega)⟩
end ZNS
