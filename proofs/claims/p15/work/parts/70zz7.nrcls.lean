/-! ===== the narrow machine: the class's, asked for as it goes ===== -/
def zn_W (f : Int) (σ : zq_S) : Prop := σ 134 0 = 3 ∧ zn_wA f (σ 134 5) (σ 135) (σ 138)
def zn_fs (f : Int) (σ : zq_S) : Prop := 0 ≤ f → f ≤ 9 → 0 ≤ σ 135 f ∧ σ 135 f < zn_v f
def zn_H (σ : zq_S) : Prop := ∃ f, zn_W f σ ∧ zn_fs f σ
def zn_Bh (σ : zq_S) : Prop := ∀ x, 0 ≤ x → x ≤ 8 → σ 136 x = -1 ∨ (0 ≤ σ 136 x ∧ σ 136 x < zn_v x)
def zn_X (σ τ : zq_S) : Prop := zn_xA (σ 134 5) (τ 134 5) (σ 135) (τ 135) (σ 138) (τ 138)
def zn_G (σ τ : zq_S) : Prop := (∀ f, zn_W f σ → zn_fs f σ → zn_W f τ) ∧ zn_X σ τ
def zn_cp (σ : zq_S) (s : Int → Int) : Prop := ∀ x, 0 ≤ x → x ≤ 9 → σ 135 x ≠ -1 → s x = σ 135 x
def zn_cv (σ : zq_S) (s : Int → Int) : Int → Int := fun x => if x ≤ 8 ∧ σ 136 x ≠ -1 then σ 136 x else s x
def zn_sl (t : Int) : Int := if t = 1 then 1 else if t = 2 then 2 else if t = 3 then 9 else if t = 4 then 3 else if t = 5 then 4 else 0
theorem zn_ne136 {a : Int} (ka : zc_kd a = 4) : a ≠ 136 := fun h => by rw [h, zc_s136] at ka; exact absurd ka (by decide)
theorem zn_ne136k {a k : Int} (ka : zc_kd a = 4) (k2 : 2 ≤ k) (k5 : k ≤ 5) : a + k ≠ 136 := fun h => by
  have hk : k = 2 ∨ k = 3 ∨ k = 4 ∨ k = 5 := by omega
  rcases hk with rfl | rfl | rfl | rfl
  · have z := zc_p4_2 ka; rw [h, zc_s136] at z; exact absurd z (by decide)
  · have z := zc_p4_3 ka; rw [h, zc_s136] at z; exact absurd z (by decide)
  · have z := zc_p4_4 ka; rw [h, zc_s136] at z; exact absurd z (by decide)
  · have z := zc_p4_5 ka; rw [h, zc_s136] at z; exact absurd z (by decide)
section ZNG
variable {σ μ τ : zq_S} {x r : Int} {s : Int → Int}
theorem zn_G_r (σ : zq_S) : zn_G σ σ := ⟨fun _ h _ => h, zn_xA_r⟩
theorem zn_fs_X {f : Int} (h : zn_X σ τ) (k : zn_fs f σ) : zn_fs f τ := fun f0 f9 => by
  have z := k f0 f9
  rw [h.2.2.1 f f0 f9 (by omega)]
  exact z
theorem zn_H_G (h : zn_H σ) (g : zn_G σ τ) : zn_H τ := by
  obtain ⟨f, w, k⟩ := h
  exact ⟨f, g.1 f w k, zn_fs_X g.2 k⟩
theorem zn_G_t (h : zn_H σ) (g : zn_G σ μ) (k : zn_G μ τ) : zn_G σ τ := by
  obtain ⟨f, w, z⟩ := h
  exact ⟨fun f w z => k.1 f (g.1 f w z) (zn_fs_X g.2 z), zn_xA_t w.2.1.1 (g.1 f w z).2 g.2 k.2⟩
theorem zn_G_fr (g : zn_G σ μ) (e0 : τ 134 0 = μ 134 0) (e5 : τ 134 5 = μ 134 5) (h135 : ∀ i, τ 135 i = μ 135 i) (h138 : ∀ i, τ 138 i = μ 138 i) : zn_G σ τ := by
  have a : τ 135 = μ 135 := funext h135
  have b : τ 138 = μ 138 := funext h138
  unfold zn_G zn_W zn_X
  rw [e0, e5, a, b]
  exact g
theorem zn_cp_X (h : zn_X σ τ) (k : zn_cp τ s) : zn_cp σ s := fun x x0 x9 q => by
  have e := h.2.2.1 x x0 x9 q
  rw [← e]
  exact k x x0 x9 (by rw [e]; exact q)
theorem zn_H_3 (h : zn_H σ) : σ 134 0 = 3 := by
  obtain ⟨f, w, -⟩ := h
  exact w.1
theorem zn_open_k (h : zn_H σ) (x0 : 0 ≤ x) (x9 : x ≤ 9) (ho : σ 135 x = -1) : σ 134 5 < 10 := by
  obtain ⟨f, w, -⟩ := h
  exact zn_k9 w.2 x0 x9 (fun j j0 j1 e => by have z := (w.2.2.1 j j0 j1).2; rw [e] at z; omega)
theorem zn_H_b (h : zn_H σ) (x0 : 0 ≤ x) (x9 : x ≤ 9) (ho : σ 135 x ≠ -1) : 0 ≤ σ 135 x ∧ σ 135 x < zn_v x := by
  obtain ⟨f, w, k⟩ := h
  rcases w.2.2.2.2 x x0 x9 ho with q | ⟨j, j0, j1, q⟩
  · rw [q] at x0 x9 ⊢; exact k x0 x9
  · have z := (w.2.2.1 j j0 j1).2
    rw [q] at z
    exact z
theorem zn_ahead_o (h : zn_H σ) (x0 : 0 ≤ x) (x9 : x ≤ 9) (ho : σ 135 x ≠ -1) : zn_G σ σ ∧ σ 135 x = σ 135 x ∧ 0 ≤ σ 135 x ∧ σ 135 x < zn_v x := ⟨zn_G_r σ, rfl, zn_H_b h x0 x9 ho⟩
theorem zn_ahead_p {s1 s2 : zq_S} (x0 : 0 ≤ x) (x9 : x ≤ 9) (ho : σ 135 x = -1) (e1 : s1 = zq_up σ 135 x 0) (e2 : s2 = zq_up s1 134 5 (s1 134 5 + 1)) (e3 : τ = zq_up s2 138 (s1 134 5) x) : zn_G σ τ ∧ τ 135 x = τ 135 x ∧ 0 ≤ τ 135 x ∧ τ 135 x < zn_v x := by
  have k1 : s1 134 5 = σ 134 5 := by rw [e1, zq_up_ne (by omega)]
  have k5 : τ 134 5 = σ 134 5 + 1 := by rw [e3, zq_up_ne (by omega), e2, zq_up_same, k1]
  have k0 : τ 134 0 = σ 134 0 := by rw [e3, zq_up_ne (by omega), e2, zq_up_ne (by omega), e1, zq_up_ne (by omega)]
  have h135 : ∀ y, τ 135 y = if y = x then 0 else σ 135 y := fun y => by
    rw [e3, zq_up_ne (by omega), e2, zq_up_ne (by omega), e1]
    by_cases c : y = x
    · rw [if_pos c, c, zq_up_same]
    · rw [if_neg c, zq_up_ne (by omega)]
  have h138 : ∀ j, τ 138 j = if j = σ 134 5 then x else σ 138 j := fun j => by
    rw [e3, k1]
    by_cases c : j = σ 134 5
    · rw [if_pos c, c, zq_up_same]
    · rw [if_neg c, zq_up_ne (by omega), e2, zq_up_ne (by omega), e1, zq_up_ne (by omega)]
  have v := zn_v_b x
  have e := h135 x
  rw [if_pos rfl] at e
  have key : ∀ f, zn_W f σ → zn_fs f σ → zn_wA f (σ 134 5 + 1) (τ 135) (τ 138) ∧ zn_xA (σ 134 5) (σ 134 5 + 1) (σ 135) (τ 135) (σ 138) (τ 138) := fun f w k => zn_push w.2 x0 x9 ho (fun q => by have z := k (by omega) (by omega); rw [← q] at z; omega) h138 h135
  refine ⟨⟨fun f w k => ⟨by rw [k0]; exact w.1, by rw [k5]; exact (key f w k).1⟩, ?_⟩, rfl, by rw [e]; decide, by rw [e]; omega⟩
  unfold zn_X
  rw [k5]
  refine ⟨by omega, fun j j0 j1 => by rw [h138, if_neg (by omega)], fun y y0 y9 q => by rw [h135, if_neg (fun c => q (by rw [c]; exact ho))], fun j j0 j1 => by rw [h138, if_pos (by omega), h135, if_pos rfl]⟩
theorem zn_in_b (hB : zn_Bh σ) (x0 : 0 ≤ x) (x8 : x ≤ 8) (h : σ 136 x ≠ -1) : zn_G σ σ ∧ (0 ≤ σ 136 x ∧ σ 136 x < zn_v x) ∧ ∀ s, zn_cp σ s → σ 136 x = zn_cv σ s x := ⟨zn_G_r σ, (hB x x0 x8).resolve_left h, fun s _ => (if_pos ⟨x8, h⟩).symm⟩
theorem zn_in_a (x0 : 0 ≤ x) (x9 : x ≤ 9) (h : 9 ≤ x ∨ σ 136 x = -1) (w : zn_G σ τ ∧ r = τ 135 x ∧ 0 ≤ r ∧ r < zn_v x) : zn_G σ τ ∧ (0 ≤ r ∧ r < zn_v x) ∧ ∀ s, zn_cp τ s → r = zn_cv σ s x := by
  obtain ⟨g, e, b0, b1⟩ := w
  refine ⟨g, ⟨b0, b1⟩, fun s k => ?_⟩
  have z := k x x0 x9 (by omega)
  show r = if x ≤ 8 ∧ σ 136 x ≠ -1 then σ 136 x else s x
  rw [if_neg (fun q => by rcases h with h | h; omega; exact q.2 h), z, e]
theorem zn_sl_b (t : Int) (h : 0 ≤ t ∧ t ≤ 5) : 0 ≤ zn_sl t ∧ zn_sl t ≤ 9 ∧ (t = 3 ↔ zn_sl t = 9) ∧ (t < 3 → zn_sl t = t) ∧ (t = 4 → zn_sl t = 3) ∧ (t = 5 → zn_sl t = 4) := by
  have ht : t = 0 ∨ t = 1 ∨ t = 2 ∨ t = 3 ∨ t = 4 ∨ t = 5 := by omega
  rcases ht with rfl | rfl | rfl | rfl | rfl | rfl <;> decide
theorem zn_cv_9 {s : Int → Int} : zn_cv σ s 9 = s 9 := if_neg (by omega)
theorem zn_cv_c (h : ∀ i, τ 136 i = σ 136 i) : zn_cv τ s = zn_cv σ s := by
  unfold zn_cv
  rw [show τ 136 = σ 136 from funext h]
theorem zn_cv_b (hB : zn_Bh σ) (hs : zn_st s) {y : Int} (y0 : 0 ≤ y) (y8 : y ≤ 8) : 0 ≤ zn_cv σ s y ∧ zn_cv σ s y < zn_v y := by
  show 0 ≤ (if y ≤ 8 ∧ σ 136 y ≠ -1 then σ 136 y else s y) ∧ (if y ≤ 8 ∧ σ 136 y ≠ -1 then σ 136 y else s y) < zn_v y
  by_cases c : y ≤ 8 ∧ σ 136 y ≠ -1
  · rw [if_pos c]; exact (hB y y0 y8).resolve_left c.2
  · rw [if_neg c]; exact hs y y0 (by omega)
theorem zn_Bh_c (h : ∀ i, τ 136 i = σ 136 i) (hB : zn_Bh σ) : zn_Bh τ := fun y y0 y8 => by rw [h]; exact hB y y0 y8
theorem zn_H_some (h : zn_H σ) : ∃ s, zn_st s ∧ zn_cp σ s := by
  obtain ⟨f, w, k⟩ := h
  exact zn_some w.2 k
theorem zn_ok_cv (hB : zn_Bh σ) (hs : zn_st s) : zw_ok (zn_F (s 9)) (zn_row (zn_cv σ s)) 3 := zn_ok (fun y y0 y8 => zn_cv_b hB hs y0 y8) (by have z := hs 9 (by decide) (by decide); have v := zn_v_b 9; omega)
/-- a number -/
theorem zn_wo_n {o : Int} (h : 16 ≤ o) (H : zn_H σ) (hr : r = zq_and (o - 16) (σ 134 0)) : zn_G σ σ ∧ (0 ≤ r ∧ r ≤ 3) ∧ ∀ s, zn_st s → zn_cp σ s → r = zw_va (zn_F (s 9)) (zn_row (zn_cv σ s)) 3 (zt_rc o) (zt_ru o) := by
  rw [zn_H_3 H] at hr
  refine ⟨zn_G_r σ, by rw [hr]; exact zn_m3.2.1 _, fun s _ _ => ?_⟩
  rw [(zt_rc_b o).1 h, zw_va_10 rfl, hr]
  unfold zt_ru
  rw [if_pos h]
theorem zn_wo_s {o : Int} (h : 0 ≤ o ∧ o ≤ 5) (w : zn_G σ τ ∧ (0 ≤ r ∧ r < zn_v (zn_sl o)) ∧ ∀ s, zn_cp τ s → r = zn_cv σ s (zn_sl o)) : zn_G σ τ ∧ (0 ≤ r ∧ r ≤ 3) ∧ ∀ s, zn_st s → zn_cp τ s → r = zw_va (zn_F (s 9)) (zn_row (zn_cv σ s)) 3 (zt_rc o) (zt_ru o) := by
  obtain ⟨g, b, k⟩ := w
  have v := zn_v_b (zn_sl o)
  have sl := zn_sl_b o h
  refine ⟨g, by omega, fun s hs hc => ?_⟩
  have e := k s hc
  rw [(zt_rc_b o).2 (by omega)]
  by_cases c0 : o < 3
  · rw [zw_va_0 c0, zn_F_o (by omega), zn_row_r c0, e, sl.2.2.2.1 c0]
  · by_cases c3 : o = 3
    · rw [zw_va_3 c3, zn_F_3, e, sl.2.2.1.mp c3, zn_cv_9]
    · by_cases c4 : o = 4
      · rw [zw_va_4 c4, zn_row_Z, e, sl.2.2.2.2.1 c4]
      · rw [zw_va_5 (by omega), zn_row_P]
        rw [sl.2.2.2.2.2 (by omega)] at e
        rw [← e]
        exact (zn_m3.1.2.2 r (by omega) (by omega)).symm
/-- the address of MEMORY -/
theorem zn_ad_s {o y : Int} (h : 6 ≤ o ∧ o ≤ 9) (e : y = zn_cv σ s (zn_sl (o - 6))) : zw_ad (zn_F (s 9)) (zn_row (zn_cv σ s)) o = y := by
  have sl := zn_sl_b (o - 6) (by omega)
  unfold zw_ad
  by_cases c : o = 9
  · rw [if_pos c, zn_F_3, e, sl.2.2.1.mp (by omega), zn_cv_9]
  · rw [if_neg c, zn_F_o (by omega), zn_row_r (by omega), e, sl.2.2.2.1 (by omega)]
theorem zn_wo_m {o y z : Int} (H : zn_H σ) (h : 6 ≤ o ∧ o ≤ 9) (w : zn_G σ μ ∧ (0 ≤ y ∧ y < zn_v (zn_sl (o - 6))) ∧ ∀ s, zn_cp μ s → y = zn_cv σ s (zn_sl (o - 6))) (e : ∀ i, μ 136 i = σ 136 i) (hz : z = 5 + y) (w2 : zn_G μ τ ∧ (0 ≤ r ∧ r < zn_v z) ∧ ∀ s, zn_cp τ s → r = zn_cv μ s z) : zn_G σ τ ∧ (0 ≤ r ∧ r ≤ 3) ∧ ∀ s, zn_st s → zn_cp τ s → r = zw_va (zn_F (s 9)) (zn_row (zn_cv σ s)) 3 (zt_rc o) (zt_ru o) := by
  obtain ⟨g1, b1, k1⟩ := w
  obtain ⟨g2, b2, k2⟩ := w2
  have v := zn_v_b z
  have v1 := zn_v_b (zn_sl (o - 6))
  refine ⟨zn_G_t H g1 g2, by omega, fun s hs hc => ?_⟩
  have e1 := k1 s (zn_cp_X g2.2 hc)
  have e2 := k2 s hc
  rw [zn_cv_c e] at e2
  rw [(zt_rc_b o).2 (by omega), zw_va_m h, zn_ad_s h e1, zn_row_m (by omega), show 8 + y - 3 = z by omega]
  exact e2
/-- slot x becomes v -/
theorem zn_cv_up {v : Int} (x0 : 0 ≤ x) (x8 : x ≤ 8) (hv : v ≠ -1) (e : τ = zq_up μ 136 x v) : zn_cv τ s = zw_up (zn_cv μ s) x v := by
  funext y
  show (if y ≤ 8 ∧ τ 136 y ≠ -1 then τ 136 y else s y) = if y = x then v else (if y ≤ 8 ∧ μ 136 y ≠ -1 then μ 136 y else s y)
  by_cases c : y = x
  · rw [if_pos c, c, e, zq_up_same, if_pos ⟨x8, hv⟩]
  · rw [if_neg c, e, zq_up_ne (by omega)]
theorem zn_be {t v w : Int} (ht : 0 ≤ t ∧ t ≤ 9 ∧ t ≠ 3) (g : zn_G σ μ) (hB : zn_Bh σ) (em : ∀ i, μ 136 i = σ 136 i) (x0 : 0 ≤ x) (x8 : x ≤ 8) (e : τ = zq_up μ 136 x v) (hv : v = zw_nv t w) (bv : 0 ≤ v ∧ v < zn_v x) (hx : ∀ s, zn_st s → zn_cp μ s → zw_ix (zn_F (s 9)) (zn_row (zn_cv σ s)) t = zn_z x) : zn_G σ τ ∧ zn_Bh τ ∧ ∀ s, zn_st s → zn_cp τ s → zn_row (zn_cv τ s) = zw_up (zn_row (zn_cv σ s)) (zw_ix (zn_F (s 9)) (zn_row (zn_cv σ s)) t) (zw_nv t w) := by
  have n : ∀ a i, a ≠ 136 → τ a i = μ a i := fun a i h => by rw [e, zq_up_ne (by omega)]
  refine ⟨zn_G_fr g (n _ _ (by decide)) (n _ _ (by decide)) (fun i => n _ _ (by decide)) (fun i => n _ _ (by decide)), fun y y0 y8 => ?_, fun s hs hc => ?_⟩
  · by_cases c : y = x
    · rw [c, e, zq_up_same]; exact Or.inr bv
    · rw [e, zq_up_ne (by omega), em]; exact hB y y0 y8
  · have hm : zn_cp μ s := fun y y0 y9 q => by have z := hc y y0 y9 (by rw [n _ _ (by decide)]; exact q); rw [n _ _ (by decide)] at z; exact z
    rw [zn_cv_up x0 x8 (by omega) e, zn_row_up ⟨x0, x8⟩, hx s hs hm, hv, zn_cv_c em]
theorem zn_be_m {t y w : Int} (h : 6 ≤ t ∧ t ≤ 9) (hB : zn_Bh σ) (q : zn_G σ μ ∧ (0 ≤ y ∧ y < zn_v (zn_sl (t - 6))) ∧ ∀ s, zn_cp μ s → y = zn_cv σ s (zn_sl (t - 6))) (em : ∀ i, μ 136 i = σ 136 i) (e : τ = zq_up μ 136 (5 + y) w) (bw : 0 ≤ w ∧ w ≤ 3) : zn_G σ τ ∧ zn_Bh τ ∧ ∀ s, zn_st s → zn_cp τ s → zn_row (zn_cv τ s) = zw_up (zn_row (zn_cv σ s)) (zw_ix (zn_F (s 9)) (zn_row (zn_cv σ s)) t) (zw_nv t w) := by
  obtain ⟨g, b, k⟩ := q
  have v := zn_v_b (5 + y)
  have v1 := zn_v_b (zn_sl (t - 6))
  refine zn_be ⟨by omega, h.2, by omega⟩ g hB em (by omega) (by omega) e ?_ (by omega) (fun s hs hc => ?_)
  · unfold zw_nv; rw [if_neg (by omega), if_neg (by omega)]
  · unfold zw_ix
    rw [if_neg (by omega), if_neg (by omega), if_neg (by omega), zn_ad_s h (k s hc)]
    have z := zn_z_b (x := 5 + y) ⟨by omega, by omega⟩
    omega
theorem zn_be_s {t v w y : Int} (h : 0 ≤ t ∧ t ≤ 5 ∧ t ≠ 3) (hy : y = zn_sl t) (hB : zn_Bh σ) (e : τ = zq_up σ 136 y v) (bw : 0 ≤ w ∧ w ≤ 3) (hv : v = if t = 4 then (if w = 0 then 0 else 1) else w) : zn_G σ τ ∧ zn_Bh τ ∧ ∀ s, zn_st s → zn_cp τ s → zn_row (zn_cv τ s) = zw_up (zn_row (zn_cv σ s)) (zw_ix (zn_F (s 9)) (zn_row (zn_cv σ s)) t) (zw_nv t w) := by
  subst hy
  have sl := zn_sl_b t ⟨h.1, h.2.1⟩
  have v4 := zn_v_b (zn_sl t)
  refine zn_be ⟨h.1, by omega, h.2.2⟩ (zn_G_r σ) hB (fun _ => rfl) sl.1 (by omega) e ?_ ?_ (fun s hs hc => ?_)
  · rw [hv]
    unfold zw_nv
    by_cases c4 : t = 4
    · rw [if_pos c4, if_pos c4]
    · rw [if_neg c4, if_neg c4]
      by_cases c5 : t = 5
      · rw [if_pos c5]; omega
      · rw [if_neg c5]
  · by_cases c4 : t = 4
    · rw [if_pos c4] at hv
      have e3 := sl.2.2.2.2.1 c4
      rw [v4.2.2.2 e3]
      by_cases c : w = 0
      · rw [if_pos c] at hv; omega
      · rw [if_neg c] at hv; omega
    · rw [if_neg c4] at hv
      rw [v4.2.2.1 (by omega)]; omega
  · unfold zw_ix
    have z := zn_z_b (x := zn_sl t) ⟨sl.1, by omega⟩
    by_cases c0 : t < 3
    · rw [if_pos c0, zn_F_o (by omega)]; omega
    · rw [if_neg c0]
      by_cases c4 : t = 4
      · rw [if_pos c4]; omega
      · rw [if_neg c4, if_pos (by omega)]; omega
/-! done afresh -/
theorem zn_af0 (h : ∀ i, 0 ≤ i → i < ((9 : Nat) : Int) → μ 136 i = -1) (n : ∀ b i, b ≠ 136 → μ b i = σ b i) (_ : zn_H σ) : zn_G σ μ ∧ zn_Bh μ := ⟨zn_G_fr (zn_G_r σ) (n _ _ (by decide)) (n _ _ (by decide)) (fun i => n _ _ (by decide)) (fun i => n _ _ (by decide)), fun x x0 x8 => Or.inl (h x x0 (by omega))⟩
theorem zn_g_c {a : Int} (hσ : zc_T σ) (ka : zc_kd a = 4) (oo : zw_oo σ a) : zn_g (zw_ra σ a) 0 (σ a 4) (σ a 5) (σ a 6) := by
  refine ⟨fun q => ?_, fun j j0 j1 => ?_⟩
  · have z := oo.1 q
    have z5 := zc_g4_5 hσ ka
    omega
  · have z := oo.2 j j0 j1
    have t2 := zc_ga6 hσ (zc_p4_2 ka) j
    have t3 := zc_ga7 hσ (zc_p4_3 ka) j
    have t5 := zc_ga9 hσ (zc_p4_5 ka) j
    refine ⟨?_, ?_, ?_⟩
    · rw [zw_ra_0 (j := j) (by omega)]; omega
    · rw [zw_ra_1 (j := j) (by omega)]; exact zw_rcb (by omega) t3.2.2
    · rw [zw_ra_4 (j := j) (by omega)]; exact zw_rcb (by omega) t5.2.2
theorem zn_oo_c {a : Int} (n : ∀ b i, b ≠ 136 → μ b i = σ b i) (ka : zc_kd a = 4) (oo : zw_oo σ a) : zw_oo μ a := zw_oo_fr (n _ _ (zn_ne136 ka)) (n _ _ (zn_ne136 ka)) (n _ _ (zn_ne136 ka)) (fun k i k2 k5 => n _ _ (zn_ne136k ka k2 k5)) oo
theorem zn_af {a : Int} (hσ : zc_T σ) (ka : zc_kd a = 4) (h : ∀ i, 0 ≤ i → i < ((9 : Nat) : Int) → μ 136 i = -1) (n : ∀ b i, b ≠ 136 → μ b i = σ b i) (oo : zw_oo σ a) (H : zn_H σ) (w : zn_G μ τ ∧ zn_Bh τ ∧ ∀ s, zn_st s → zn_cp τ s → zn_row (zn_cv τ s) = zw_do (zn_F (s 9)) 3 (zw_ra μ a) 0 (μ a 4) (μ a 5) (μ a 6) (zn_row (zn_cv μ s))) : zn_G σ τ ∧ zn_Bh τ ∧ ∀ s, zn_st s → zn_cp τ s → ∀ x, 0 ≤ x → x ≤ 8 → zn_cv τ s x = zn_o (zw_ra σ a) 0 (σ a 4) (σ a 5) (σ a 6) s x := by
  have g0 := (zn_af0 h n H).1
  obtain ⟨g, hB, k⟩ := w
  refine ⟨zn_G_t H g0 g, hB, fun s hs hc x x0 x8 => ?_⟩
  have e := k s hs hc
  have ra : zw_ra μ a = zw_ra σ a := zw_ra_fr (fun k i k2 k5 => n _ _ (zn_ne136k ka k2 k5))
  rw [ra, n a 4 (zn_ne136 ka), n a 5 (zn_ne136 ka), n a 6 (zn_ne136 ka)] at e
  have b := zn_z_b ⟨x0, x8⟩
  have z : zn_row (zn_cv τ s) (zn_z x) = zn_cv τ s x := zn_row_z ⟨x0, x8⟩
  rw [← z, e]
  have gg := zn_g_c hσ ka oo
  exact zw_do_c (fun _ _ _ => rfl) (fun c c0 _ => zn_row_c (fun y y0 y8 => if_neg (fun q => q.2 (h y y0 (by omega)))) c0) (zn_ok_st hs) gg.1 (fun j j0 j1 => ⟨⟨rfl, rfl, rfl, rfl, rfl, rfl⟩, gg.2 j j0 j1⟩) _ b.1 b.2.1
end ZNG
