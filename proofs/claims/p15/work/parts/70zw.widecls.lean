/-! ===== the machine as it was told: the class's, its cells as one row ===== -/
/-- words within the mask, numbers of FIELDS in bounds -/
def zw_ok (F s : Int → Int) (m : Int) : Prop := (∀ f, 0 ≤ f → f ≤ 2 → 0 ≤ F f ∧ F f ≤ 7) ∧ (0 ≤ F 3 ∧ F 3 ≤ m) ∧ (∀ i, 0 ≤ i → i < 264 → 0 ≤ s i ∧ s i ≤ m) ∧ (0 ≤ s 264 ∧ s 264 ≤ 1) ∧ (0 ≤ s 265 ∧ s 265 ≤ 63) ∧ (1 ≤ m ∧ m ≤ 255 ∧ ∀ x, 0 ≤ x → x ≤ m → zq_and x m = x) ∧ (∀ x, 0 ≤ zq_and x m ∧ zq_and x m ≤ m) ∧ (∀ x y, 0 ≤ x → x ≤ m → 0 ≤ y → y ≤ m → (0 ≤ zq_or x y ∧ zq_or x y ≤ m) ∧ (0 ≤ zq_xor x y ∧ zq_xor x y ≤ m))
section ZWC
variable {F s : Int → Int} {m w n t v : Int}
theorem zw_ad_b (h : zw_ok F s m) (hw : 6 ≤ w ∧ w ≤ 9) : 0 ≤ zw_ad F s w ∧ zw_ad F s w ≤ m := by
  unfold zw_ad
  by_cases c : w = 9
  · rw [if_pos c]; exact h.2.1
  · rw [if_neg c]
    have f := h.1 (w - 6) (by omega) (by omega)
    exact h.2.2.1 _ f.1 (by omega)
theorem zw_ix_b (h : zw_ok F s m) (ht : 0 ≤ t ∧ t ≤ 9 ∧ t ≠ 3) : 0 ≤ zw_ix F s t ∧ zw_ix F s t ≤ 265 ∧ (t < 3 → zw_ix F s t < 8) ∧ (6 ≤ t → 8 ≤ zw_ix F s t ∧ zw_ix F s t < 264) := by
  have m255 := h.2.2.2.2.2.1.2.1
  unfold zw_ix
  by_cases c0 : t < 3
  · have f := h.1 t ht.1 (by omega)
    rw [if_pos c0]; omega
  · rw [if_neg c0]
    by_cases c4 : t = 4
    · rw [if_pos c4]; omega
    · rw [if_neg c4]
      by_cases c5 : t = 5
      · rw [if_pos c5]; omega
      · have a := zw_ad_b (w := t) h (by omega)
        rw [if_neg c5]; omega
theorem zw_ok_up (h : zw_ok F s m) (ht : 0 ≤ t ∧ t ≤ 9 ∧ t ≠ 3) (hv : 0 ≤ v ∧ v ≤ m) : zw_ok F (zw_up s (zw_ix F s t) (zw_nv t v)) m := by
  obtain ⟨b0, b1, b2, b3⟩ := zw_ix_b h ht
  have e4 : t = 4 → zw_ix F s t = 264 := fun q => by unfold zw_ix; rw [if_neg (by omega), if_pos q]
  have e5 : t = 5 → zw_ix F s t = 265 := fun q => by unfold zw_ix; rw [if_neg (by omega), if_neg (by omega), if_pos q]
  have nv : (t = 4 → 0 ≤ zw_nv t v ∧ zw_nv t v ≤ 1) ∧ (t = 5 → 0 ≤ zw_nv t v ∧ zw_nv t v ≤ 63) ∧ (t ≠ 4 → t ≠ 5 → zw_nv t v = v) := by
    unfold zw_nv
    refine ⟨fun q => ?_, fun q => ?_, fun q1 q2 => ?_⟩
    · rw [if_pos q]; split <;> omega
    · rw [if_neg (by omega), if_pos q]; omega
    · rw [if_neg q1, if_neg q2]
  obtain ⟨h1, h2, h3, h4, h5, h6⟩ := h
  refine ⟨h1, h2, fun i i0 i1 => ?_, ?_, ?_, h6⟩
  · show 0 ≤ (if i = zw_ix F s t then zw_nv t v else s i) ∧ (if i = zw_ix F s t then zw_nv t v else s i) ≤ m
    by_cases c : i = zw_ix F s t
    · have q4 : t ≠ 4 := fun q => by have := e4 q; omega
      have q5 : t ≠ 5 := fun q => by have := e5 q; omega
      rw [if_pos c, nv.2.2 q4 q5]; exact hv
    · rw [if_neg c]; exact h3 i i0 i1
  · show 0 ≤ (if 264 = zw_ix F s t then zw_nv t v else s 264) ∧ (if 264 = zw_ix F s t then zw_nv t v else s 264) ≤ 1
    by_cases c : 264 = zw_ix F s t
    · have q4 : t = 4 := by
        by_cases q : t = 4
        · exact q
        · by_cases q5 : t = 5
          · have := e5 q5; omega
          · omega
      rw [if_pos c]; exact nv.1 q4
    · rw [if_neg c]; exact h4
  · show 0 ≤ (if 265 = zw_ix F s t then zw_nv t v else s 265) ∧ (if 265 = zw_ix F s t then zw_nv t v else s 265) ≤ 63
    by_cases c : 265 = zw_ix F s t
    · have q5 : t = 5 := by
        by_cases q : t = 5
        · exact q
        · by_cases q4 : t = 4
          · have := e4 q4; omega
          · omega
      rw [if_pos c]; exact nv.2.1 q5
    · rw [if_neg c]; exact h5
theorem zw_vl_b (h : zw_ok F s m) {A : Int → Int} {p : Int} : 0 ≤ zw_vl F s m A p ∧ zw_vl F s m A p ≤ m := h.2.2.2.2.2.2.1 _
theorem zw_ok_as (h : zw_ok F s m) {A : Int → Int} {p : Int} : ∀ k : Nat, (∀ j : Int, 0 ≤ j → j < k → 0 ≤ A (p + 6 * j) ∧ A (p + 6 * j) ≤ 9 ∧ A (p + 6 * j) ≠ 3) → zw_ok F (zw_asF F m A p s k) m := by
  intro k
  induction k with
  | zero => intro _; exact h
  | succ k ih =>
    intro ha
    have q := ih (fun j j0 j1 => ha j j0 (by omega))
    exact zw_ok_up q (ha k (by omega) (by omega)) (zw_vl_b q)
end ZWC
/-- the class's combine, masked as the reference's -/
theorem zw_cmb {F s : Int → Int} {m c x y : Int} (h : zw_ok F s m) (hx : 0 ≤ x ∧ x ≤ m) (hy : 0 ≤ y ∧ y ≤ m) (hc : zt_sn c ≠ 0) : (if c = 43 then zq_and (x + y) m else if c = 45 then zq_and (x - y) m else if c = 38 then zq_and x y else if c = 124 then zq_or x y else if c = 94 then zq_xor x y else if x < y then 1 else 0) = zq_and (zw_rk (zt_sn c) x y) m := by
  have id := h.2.2.2.2.2.1.2.2
  have m1 := h.2.2.2.2.2.1.1
  have sn := (zt_sn_b c).2.2.mp hc
  have o := h.2.2.2.2.2.2.2 x y hx.1 hx.2 hy.1 hy.2
  have m2 := h.2.2.2.2.2.1.2.1
  have an := zq_and_nnL (x := x) (y := y) ⟨hx.1, by omega⟩
  rcases sn with e | e | e | e | e | e
  · subst e
    rw [show zt_sn 43 = 1 by decide, if_pos rfl]
    unfold zw_rk
    rw [if_pos rfl]
  · subst e
    rw [show zt_sn 45 = 2 by decide, if_neg (by decide), if_pos rfl]
    unfold zw_rk
    rw [if_neg (by decide), if_pos rfl]
  · subst e
    rw [show zt_sn 38 = 3 by decide, if_neg (by decide), if_neg (by decide), if_pos rfl]
    unfold zw_rk
    rw [if_neg (by decide), if_neg (by decide), if_pos rfl, id _ an.1 (by omega)]
  · subst e
    rw [show zt_sn 124 = 4 by decide, if_neg (by decide), if_neg (by decide), if_neg (by decide), if_pos rfl]
    unfold zw_rk
    rw [if_neg (by decide), if_neg (by decide), if_neg (by decide), if_pos rfl, id _ o.1.1 o.1.2]
  · subst e
    rw [show zt_sn 94 = 5 by decide, if_neg (by decide), if_neg (by decide), if_neg (by decide), if_neg (by decide), if_pos rfl]
    unfold zw_rk
    rw [if_neg (by decide), if_neg (by decide), if_neg (by decide), if_neg (by decide), if_pos rfl, id _ o.2.1 o.2.2]
  · subst e
    rw [show zt_sn 60 = 6 by decide, if_neg (by decide), if_neg (by decide), if_neg (by decide), if_neg (by decide), if_neg (by decide)]
    rw [show zw_rk 6 x y = (if x < y then 1 else 0) by unfold zw_rk; rw [if_neg (by decide), if_neg (by decide), if_neg (by decide), if_neg (by decide), if_neg (by decide), if_pos rfl]]
    by_cases q : x < y
    · rw [if_pos q, id 1 (by omega) m1]
    · rw [if_neg q, id 0 (by omega) (by omega)]
/-! ===== what was changed, and how it is undone ===== -/
section ZWS
variable {σ τ : zq_S} {b a i v w n : Int}
theorem zw_rcb (h0 : 0 ≤ a) (h : a ≤ 9 ∨ 16 ≤ a) : 0 ≤ zt_rc a ∧ zt_rc a ≤ 10 := by
  have z := zt_rc_b a
  by_cases c : 16 ≤ a
  · have := z.1 c; omega
  · have := z.2 c; omega
end ZWS
/-! ===== an ORDER of the class as a row of the reference's; its log ===== -/
def zw_ra (σ : zq_S) (a q : Int) : Int := if q % 6 = 0 then σ (a + 2) (q / 6) else if q % 6 = 1 then zt_rc (σ (a + 3) (q / 6)) else if q % 6 = 2 then zt_ru (σ (a + 3) (q / 6)) else if q % 6 = 3 then zt_sn (σ (a + 4) (q / 6)) else if q % 6 = 4 then zt_rc (σ (a + 5) (q / 6)) else zt_ru (σ (a + 5) (q / 6))
section ZWR
variable {σ : zq_S} {a j q : Int}
theorem zw_ra_0 (h : q = 6 * j) : zw_ra σ a q = σ (a + 2) j := by unfold zw_ra; rw [if_pos (by omega), show q / 6 = j by omega]
theorem zw_ra_1 (h : q = 6 * j + 1) : zw_ra σ a q = zt_rc (σ (a + 3) j) := by unfold zw_ra; rw [if_neg (by omega), if_pos (by omega), show q / 6 = j by omega]
theorem zw_ra_2 (h : q = 6 * j + 2) : zw_ra σ a q = zt_ru (σ (a + 3) j) := by unfold zw_ra; rw [if_neg (by omega), if_neg (by omega), if_pos (by omega), show q / 6 = j by omega]
theorem zw_ra_3 (h : q = 6 * j + 3) : zw_ra σ a q = zt_sn (σ (a + 4) j) := by unfold zw_ra; rw [if_neg (by omega), if_neg (by omega), if_neg (by omega), if_pos (by omega), show q / 6 = j by omega]
theorem zw_ra_4 (h : q = 6 * j + 4) : zw_ra σ a q = zt_rc (σ (a + 5) j) := by unfold zw_ra; rw [if_neg (by omega), if_neg (by omega), if_neg (by omega), if_neg (by omega), if_pos (by omega), show q / 6 = j by omega]
theorem zw_ra_5 (h : q = 6 * j + 5) : zw_ra σ a q = zt_ru (σ (a + 5) j) := by unfold zw_ra; rw [if_neg (by omega), if_neg (by omega), if_neg (by omega), if_neg (by omega), if_neg (by omega), show q / 6 = j by omega]
end ZWR
/-- an ORDER that can be done -/
def zw_oo (σ : zq_S) (a : Int) : Prop := (σ a 4 ≠ 0 → σ a 5 ≠ 3 ∧ σ a 5 ≤ 4) ∧ ∀ j, 0 ≤ j → j < σ a 6 → σ (a + 2) j ≠ 3 ∧ (σ (a + 4) j = 0 ∨ zt_sn (σ (a + 4) j) ≠ 0)
theorem zw_vl_0 {F s A : Int → Int} {m p x : Int} (ok : zw_ok F s m) (hs : A (p + 3) = 0) (hx : x = zw_va F s m (A (p + 1)) (A (p + 2))) (hb : 0 ≤ x ∧ x ≤ m) : x = zw_vl F s m A p := by
  unfold zw_vl
  rw [← hx, hs]
  unfold zw_rk
  rw [if_neg (by decide), if_neg (by decide), if_neg (by decide), if_neg (by decide), if_neg (by decide), if_neg (by decide), ok.2.2.2.2.2.1.2.2 x hb.1 hb.2]
theorem zw_vl_1 {F s A : Int → Int} {m p x y c r : Int} (ok : zw_ok F s m) (hs : A (p + 3) = zt_sn c) (hc : zt_sn c ≠ 0) (hx : x = zw_va F s m (A (p + 1)) (A (p + 2))) (hy : y = zw_va F s m (A (p + 4)) (A (p + 5))) (bx : 0 ≤ x ∧ x ≤ m) (bY : 0 ≤ y ∧ y ≤ m) (hr : r = if c = 43 then zq_and (x + y) m else if c = 45 then zq_and (x - y) m else if c = 38 then zq_and x y else if c = 124 then zq_or x y else if c = 94 then zq_xor x y else if x < y then 1 else 0) : r = zw_vl F s m A p := by
  have sb := zt_sn_b c
  rw [hr, zw_cmb ok bx bY hc]
  unfold zw_vl
  rw [← hx, hs, if_pos (by omega), ← hy]
theorem zw_gw {F s : Int → Int} {m d : Int} (h0 : 0 ≤ d) (h : d ≠ 3 ∧ d ≤ 4) : zw_va F s m (zt_rc d) (zt_ru d) = if d = 4 then s 264 else s (F d) := by
  rw [(zt_rc_b d).2 (by omega)]
  by_cases c : d = 4
  · rw [if_pos c, zw_va_4 c]
  · rw [if_neg c, zw_va_0 (by omega)]
theorem zw_ra_fr {σ τ : zq_S} {a : Int} (h : ∀ k i, 2 ≤ k → k ≤ 5 → τ (a + k) i = σ (a + k) i) : zw_ra τ a = zw_ra σ a := by
  funext q
  unfold zw_ra
  rw [h 2 _ (by decide) (by decide), h 3 _ (by decide) (by decide), h 4 _ (by decide) (by decide), h 5 _ (by decide) (by decide)]
theorem zw_oo_fr {σ τ : zq_S} {a : Int} (h4 : τ a 4 = σ a 4) (h5 : τ a 5 = σ a 5) (h6 : τ a 6 = σ a 6) (h : ∀ k i, 2 ≤ k → k ≤ 5 → τ (a + k) i = σ (a + k) i) (o : zw_oo σ a) : zw_oo τ a := by
  unfold zw_oo
  rw [h4, h5, h6]
  refine ⟨o.1, fun j j0 j1 => ?_⟩
  rw [h 2 _ (by decide) (by decide), h 4 _ (by decide) (by decide)]
  exact o.2 j j0 j1

