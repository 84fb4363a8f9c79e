/-! ===== the machine as it was told: the class's, its cells as one row ===== -/
def zw_cs (σ : zq_S) (b : Int) : Int → Int := fun i => if i < 8 then σ (b + 1) i else if i < 264 then σ (b + 2) (i - 8) else if i = 264 then σ b 3 else if i = 265 then σ b 4 else 0
/-- words within the mask, numbers of FIELDS in bounds -/
def zw_ok (F s : Int → Int) (m : Int) : Prop := (∀ f, 0 ≤ f → f ≤ 2 → 0 ≤ F f ∧ F f ≤ 7) ∧ (0 ≤ F 3 ∧ F 3 ≤ m) ∧ (∀ i, 0 ≤ i → i < 264 → 0 ≤ s i ∧ s i ≤ m) ∧ (0 ≤ s 264 ∧ s 264 ≤ 1) ∧ (0 ≤ s 265 ∧ s 265 ≤ 63) ∧ (1 ≤ m ∧ m ≤ 255 ∧ ∀ x, 0 ≤ x → x ≤ m → zq_and x m = x) ∧ (∀ x, 0 ≤ zq_and x m ∧ zq_and x m ≤ m) ∧ (∀ x y, 0 ≤ x → x ≤ m → 0 ≤ y → y ≤ m → (0 ≤ zq_or x y ∧ zq_or x y ≤ m) ∧ (0 ≤ zq_xor x y ∧ zq_xor x y ≤ m))
section ZWC
variable {F s : Int → Int} {m w n t v : Int}
theorem zw_ad_b (h : zw_ok F s m) (hw : 6 ≤ w ∧ w ≤ 9) : 0 ≤ zw_ad F s w ∧ zw_ad F s w ≤ m := by
  unfold zw_ad
  by_cases c : w = 9
  · rw [if_pos c]; exact h.2.1
  · rw [if_neg c]
    have f := h.1 (w - 6) (by omega) (by omega)
    exact h.2.2.1 _ f.1 (by omega)
theorem zw_va_b (h : zw_ok F s m) (hw : 0 ≤ w ∧ w ≤ 10) : 0 ≤ zw_va F s m w n ∧ zw_va F s m w n ≤ m := by
  obtain ⟨h1, h2, h3, h4, h5, h6, h7, h8⟩ := h
  by_cases c0 : w < 3
  · rw [zw_va_0 c0]
    have f := h1 w hw.1 (by omega)
    exact h3 _ f.1 (by omega)
  · by_cases c3 : w = 3
    · rw [zw_va_3 c3]; exact h2
    · by_cases c4 : w = 4
      · rw [zw_va_4 c4]; omega
      · by_cases c5 : w = 5
        · rw [zw_va_5 c5]; exact h7 _
        · by_cases c10 : w = 10
          · rw [zw_va_10 c10]; exact h7 _
          · have a := zw_ad_b (w := w) ⟨h1, h2, h3, h4, h5, h6, h7, h8⟩ (by omega)
            rw [zw_va_m (by omega)]
            exact h3 _ (by omega) (by omega)
theorem zw_ix_b (h : zw_ok F s m) (ht : 0 ≤ t ∧ t ≤ 9 ∧ t ≠ 3) : 0 ≤ zw_ix F s t ∧ zw_ix F s t ≤ 265 ∧ (t < 3 → zw_ix F s t < 8) ∧ (6 ≤ t → 8 ≤ zw_ix F s t ∧ zw_ix F s t < 264) := by
  have m255 := h.2.2.2.2.2.1.2.1
  unfold zw_ix
  by_cases c0 : t < 3
  · have f := h.1 t ht.1 (by omega)
    rw [if_pos c0]; omega
  · rw [if_neg c0]
    by_cases c4 : t = 4
    · rw [if_pos c4]; omega
    · rw [if_neg c4]
      by_cases c5 : t = 5
      · rw [if_pos c5]; omega
      · have a := zw_ad_b (w := t) h (by omega)
        rw [if_neg c5]; omega
theorem zw_ok_up (h : zw_ok F s m) (ht : 0 ≤ t ∧ t ≤ 9 ∧ t ≠ 3) (hv : 0 ≤ v ∧ v ≤ m) : zw_ok F (zw_up s (zw_ix F s t) (zw_nv t v)) m := by
  obtain ⟨b0, b1, b2, b3⟩ := zw_ix_b h ht
  have e4 : t = 4 → zw_ix F s t = 264 := fun q => by unfold zw_ix; rw [if_neg (by omega), if_pos q]
  have e5 : t = 5 → zw_ix F s t = 265 := fun q => by unfold zw_ix; rw [if_neg (by omega), if_neg (by omega), if_pos q]
  have nv : (t = 4 → 0 ≤ zw_nv t v ∧ zw_nv t v ≤ 1) ∧ (t = 5 → 0 ≤ zw_nv t v ∧ zw_nv t v ≤ 63) ∧ (t ≠ 4 → t ≠ 5 → zw_nv t v = v) := by
    unfold zw_nv
    refine ⟨fun q => ?_, fun q => ?_, fun q1 q2 => ?_⟩
    · rw [if_pos q]; split <;> omega
    · rw [if_neg (by omega), if_pos q]; omega
    · rw [if_neg q1, if_neg q2]
  obtain ⟨h1, h2, h3, h4, h5, h6⟩ := h
  refine ⟨h1, h2, fun i i0 i1 => ?_, ?_, ?_, h6⟩
  · show 0 ≤ (if i = zw_ix F s t then zw_nv t v else s i) ∧ (if i = zw_ix F s t then zw_nv t v else s i) ≤ m
    by_cases c : i = zw_ix F s t
    · have q4 : t ≠ 4 := fun q => by have := e4 q; omega
      have q5 : t ≠ 5 := fun q => by have := e5 q; omega
      rw [if_pos c, nv.2.2 q4 q5]; exact hv
    · rw [if_neg c]; exact h3 i i0 i1
  · show 0 ≤ (if 264 = zw_ix F s t then zw_nv t v else s 264) ∧ (if 264 = zw_ix F s t then zw_nv t v else s 264) ≤ 1
    by_cases c : 264 = zw_ix F s t
    · have q4 : t = 4 := by
        by_cases q : t = 4
        · exact q
        · by_cases q5 : t = 5
          · have := e5 q5; omega
          · omega
      rw [if_pos c]; exact nv.1 q4
    · rw [if_neg c]; exact h4
  · show 0 ≤ (if 265 = zw_ix F s t then zw_nv t v else s 265) ∧ (if 265 = zw_ix F s t then zw_nv t v else s 265) ≤ 63
    by_cases c : 265 = zw_ix F s t
    · have q5 : t = 5 := by
        by_cases q : t = 5
        · exact q
        · by_cases q4 : t = 4
          · have := e4 q4; omega
          · omega
      rw [if_pos c]; exact nv.2.1 q5
    · rw [if_neg c]; exact h5
theorem zw_vl_b (h : zw_ok F s m) {A : Int → Int} {p : Int} : 0 ≤ zw_vl F s m A p ∧ zw_vl F s m A p ≤ m := h.2.2.2.2.2.2.1 _
theorem zw_ok_as (h : zw_ok F s m) {A : Int → Int} {p : Int} : ∀ k : Nat, (∀ j : Int, 0 ≤ j → j < k → 0 ≤ A (p + 6 * j) ∧ A (p + 6 * j) ≤ 9 ∧ A (p + 6 * j) ≠ 3) → zw_ok F (zw_asF F m A p s k) m := by
  intro k
  induction k with
  | zero => intro _; exact h
  | succ k ih =>
    intro ha
    have q := ih (fun j j0 j1 => ha j j0 (by omega))
    exact zw_ok_up q (ha k (by omega) (by omega)) (zw_vl_b q)
end ZWC
/-- the class's combine, masked as the reference's -/
theorem zw_cmb {F s : Int → Int} {m c x y : Int} (h : zw_ok F s m) (hx : 0 ≤ x ∧ x ≤ m) (hy : 0 ≤ y ∧ y ≤ m) (hc : zt_sn c ≠ 0) : (if c = 43 then zq_and (x + y) m else if c = 45 then zq_and (x - y) m else if c = 38 then zq_and x y else if c = 124 then zq_or x y else if c = 94 then zq_xor x y else if x < y then 1 else 0) = zq_and (zw_rk (zt_sn c) x y) m := by
  have id := h.2.2.2.2.2.1.2.2
  have m1 := h.2.2.2.2.2.1.1
  have sn := (zt_sn_b c).2.2.mp hc
  have o := h.2.2.2.2.2.2.2 x y hx.1 hx.2 hy.1 hy.2
  have m2 := h.2.2.2.2.2.1.2.1
  have an := zq_and_nnL (x := x) (y := y) ⟨hx.1, by omega⟩
  rcases sn with e | e | e | e | e | e
  · subst e
    rw [show zt_sn 43 = 1 by decide, if_pos rfl]
    unfold zw_rk
    rw [if_pos rfl]
  · subst e
    rw [show zt_sn 45 = 2 by decide, if_neg (by decide), if_pos rfl]
    unfold zw_rk
    rw [if_neg (by decide), if_pos rfl]
  · subst e
    rw [show zt_sn 38 = 3 by decide, if_neg (by decide), if_neg (by decide), if_pos rfl]
    unfold zw_rk
    rw [if_neg (by decide), if_neg (by decide), if_pos rfl, id _ an.1 (by omega)]
  · subst e
    rw [show zt_sn 124 = 4 by decide, if_neg (by decide), if_neg (by decide), if_neg (by decide), if_pos rfl]
    unfold zw_rk
    rw [if_neg (by decide), if_neg (by decide), if_neg (by decide), if_pos rfl, id _ o.1.1 o.1.2]
  · subst e
    rw [show zt_sn 94 = 5 by decide, if_neg (by decide), if_neg (by decide), if_neg (by decide), if_neg (by decide), if_pos rfl]
    unfold zw_rk
    rw [if_neg (by decide), if_neg (by decide), if_neg (by decide), if_neg (by decide), if_pos rfl, id _ o.2.1 o.2.2]
  · subst e
    rw [show zt_sn 60 = 6 by decide, if_neg (by decide), if_neg (by decide), if_neg (by decide), if_neg (by decide), if_neg (by decide)]
    rw [show zw_rk 6 x y = (if x < y then 1 else 0) by unfold zw_rk; rw [if_neg (by decide), if_neg (by decide), if_neg (by decide), if_neg (by decide), if_neg (by decide), if_pos rfl]]
    by_cases q : x < y
    · rw [if_pos q, id 1 (by omega) m1]
    · rw [if_neg q, id 0 (by omega) (by omega)]
/-! ===== what was changed, and how it is undone ===== -/
def zw_unF (at_ fr : Int → Int) (s : Int → Int) : Nat → Int → Int
  | 0 => s
  | k + 1 => zw_unF at_ fr (zw_up s (at_ k) (fr k)) k
/-- the latest n changes undone -/
def zw_un (at_ fr : Int → Int) (n : Int) (s : Int → Int) : Int → Int := zw_unF at_ fr s n.toNat
theorem zw_un_0 (at_ fr : Int → Int) (s : Int → Int) : zw_un at_ fr 0 s = s := rfl
theorem zw_un_s {at_ fr : Int → Int} {n : Int} {s : Int → Int} (h : 0 ≤ n) : zw_un at_ fr (n + 1) s = zw_un at_ fr n (zw_up s (at_ n) (fr n)) := by
  obtain ⟨k, rfl⟩ := Int.eq_ofNat_of_zero_le h
  rfl
theorem zw_unF_c {at_ fr at' fr' : Int → Int} : ∀ (k : Nat) (s s' : Int → Int) (i : Int), (∀ j : Int, 0 ≤ j → j < k → at' j = at_ j ∧ fr' j = fr j) → s' i = s i → zw_unF at' fr' s' k i = zw_unF at_ fr s k i := by
  intro k
  induction k with
  | zero => intro s s' i _ h; exact h
  | succ k ih =>
    intro s s' i h hs
    obtain ⟨e1, e2⟩ := h k (by omega) (by omega)
    show zw_unF at' fr' (zw_up s' (at' k) (fr' k)) k i = zw_unF at_ fr (zw_up s (at_ k) (fr k)) k i
    refine ih _ _ i (fun j j0 j1 => h j j0 (by omega)) ?_
    show (if i = at' k then fr' k else s' i) = (if i = at_ k then fr k else s i)
    rw [e1, e2, hs]
theorem zw_un_c {at_ fr at' fr' : Int → Int} {n i : Int} {s s' : Int → Int} (h : ∀ j : Int, 0 ≤ j → j < n → at' j = at_ j ∧ fr' j = fr j) (hs : s' i = s i) : zw_un at' fr' n s' i = zw_un at_ fr n s i := zw_unF_c n.toNat s s' i (fun j j0 j1 => h j j0 (by omega)) hs
/-- a change more, undone first -/
theorem zw_un_p {at_ fr : Int → Int} {n i x v : Int} {s : Int → Int} (h : 0 ≤ n) (ha : at_ n = x) (hf : fr n = s x) : zw_un at_ fr (n + 1) (zw_up s x v) i = zw_un at_ fr n s i := by
  rw [zw_un_s h]
  refine zw_un_c (fun _ _ _ => ⟨rfl, rfl⟩) ?_
  show (if i = at_ n then fr n else if i = x then v else s i) = s i
  by_cases c : i = x
  · rw [if_pos (by omega), hf, c]
  · rw [if_neg (by omega), if_neg c]

section ZWS
variable {σ τ : zq_S} {b a i v w n : Int}
theorem zw_cs_r (ha : a = b + 1) (h : i < 8) : zw_cs σ b i = σ a i := by unfold zw_cs; rw [if_pos h, ha]
theorem zw_cs_m (ha : a = b + 2) (h0 : 8 ≤ i) (h1 : i < 264) : zw_cs σ b i = σ a (i - 8) := by unfold zw_cs; rw [if_neg (by omega), if_pos h1, ha]
theorem zw_cs_z : zw_cs σ b 264 = σ b 3 := by unfold zw_cs; rw [if_neg (by decide), if_neg (by decide), if_pos rfl]
theorem zw_cs_p : zw_cs σ b 265 = σ b 4 := by unfold zw_cs; rw [if_neg (by decide), if_neg (by decide), if_neg (by decide), if_pos rfl]
theorem zw_cs_c (h1 : ∀ i, τ (b + 1) i = σ (b + 1) i) (h2 : ∀ i, τ (b + 2) i = σ (b + 2) i) (h3 : τ b 3 = σ b 3) (h4 : τ b 4 = σ b 4) : zw_cs τ b = zw_cs σ b := by
  funext i
  unfold zw_cs
  rw [h1, h2, h3, h4]
theorem zw_cs_u3 (e : τ = zq_up σ b 3 v) : zw_cs τ b = zw_up (zw_cs σ b) 264 v := by
  funext i
  show _ = if i = 264 then v else zw_cs σ b i
  unfold zw_cs
  rw [e, zq_up_ne (by omega), zq_up_ne (by omega), zq_up_same, zq_up_ne (by omega)]
  by_cases c : i = 264
  · rw [if_neg (by omega), if_neg (by omega), if_pos c, if_pos c]
  · rw [if_neg c, if_neg c, if_neg c]
theorem zw_cs_u4 (e : τ = zq_up σ b 4 v) : zw_cs τ b = zw_up (zw_cs σ b) 265 v := by
  funext i
  show _ = if i = 265 then v else zw_cs σ b i
  unfold zw_cs
  rw [e, zq_up_ne (by omega), zq_up_ne (by omega), zq_up_ne (by omega), zq_up_same]
  by_cases c : i = 265
  · rw [if_neg (by omega), if_neg (by omega), if_neg (by omega), if_pos c, if_pos c]
  · rw [if_neg c, if_neg c, if_neg c]
theorem zw_cs_ur (e : τ = zq_up σ a n v) (ha : a = b + 1) (hn : n < 8) : zw_cs τ b = zw_up (zw_cs σ b) n v := by
  funext i
  show _ = if i = n then v else zw_cs σ b i
  by_cases c : i = n
  · rw [if_pos c, c, zw_cs_r ha hn, e, zq_up_same]
  · rw [if_neg c]
    unfold zw_cs
    rw [e, zq_up_ne (by omega), zq_up_ne (by omega), zq_up_ne (by omega), zq_up_ne (by omega)]
theorem zw_cs_um (e : τ = zq_up σ a w v) (ha : a = b + 2) (h0 : 0 ≤ w) (h1 : w < 256) : zw_cs τ b = zw_up (zw_cs σ b) (8 + w) v := by
  funext i
  show _ = if i = 8 + w then v else zw_cs σ b i
  by_cases c : i = 8 + w
  · rw [if_pos c, c, zw_cs_m ha (by omega) (by omega), e, show 8 + w - 8 = w by omega, zq_up_same]
  · rw [if_neg c]
    unfold zw_cs
    rw [e, zq_up_ne (by omega), zq_up_ne (by omega), zq_up_ne (by omega), zq_up_ne (by omega)]
theorem zw_rcb (h0 : 0 ≤ a) (h : a ≤ 9 ∨ 16 ≤ a) : 0 ≤ zt_rc a ∧ zt_rc a ≤ 10 := by
  have z := zt_rc_b a
  by_cases c : 16 ≤ a
  · have := z.1 c; omega
  · have := z.2 c; omega
theorem zw_adw {F s : Int → Int} : (if w - 6 = 3 then F 3 else s (F (w - 6))) = zw_ad F s w := by
  unfold zw_ad
  by_cases c : w = 9
  · rw [if_pos c, if_pos (by omega)]
  · rw [if_neg c, if_neg (by omega)]
end ZWS
/-! ===== an ORDER of the class as a row of the reference's; its log ===== -/
def zw_ra (σ : zq_S) (a q : Int) : Int := if q % 6 = 0 then σ (a + 2) (q / 6) else if q % 6 = 1 then zt_rc (σ (a + 3) (q / 6)) else if q % 6 = 2 then zt_ru (σ (a + 3) (q / 6)) else if q % 6 = 3 then zt_sn (σ (a + 4) (q / 6)) else if q % 6 = 4 then zt_rc (σ (a + 5) (q / 6)) else zt_ru (σ (a + 5) (q / 6))
section ZWR
variable {σ : zq_S} {a j q : Int}
theorem zw_ra_0 (h : q = 6 * j) : zw_ra σ a q = σ (a + 2) j := by unfold zw_ra; rw [if_pos (by omega), show q / 6 = j by omega]
theorem zw_ra_1 (h : q = 6 * j + 1) : zw_ra σ a q = zt_rc (σ (a + 3) j) := by unfold zw_ra; rw [if_neg (by omega), if_pos (by omega), show q / 6 = j by omega]
theorem zw_ra_2 (h : q = 6 * j + 2) : zw_ra σ a q = zt_ru (σ (a + 3) j) := by unfold zw_ra; rw [if_neg (by omega), if_neg (by omega), if_pos (by omega), show q / 6 = j by omega]
theorem zw_ra_3 (h : q = 6 * j + 3) : zw_ra σ a q = zt_sn (σ (a + 4) j) := by unfold zw_ra; rw [if_neg (by omega), if_neg (by omega), if_neg (by omega), if_pos (by omega), show q / 6 = j by omega]
theorem zw_ra_4 (h : q = 6 * j + 4) : zw_ra σ a q = zt_rc (σ (a + 5) j) := by unfold zw_ra; rw [if_neg (by omega), if_neg (by omega), if_neg (by omega), if_neg (by omega), if_pos (by omega), show q / 6 = j by omega]
theorem zw_ra_5 (h : q = 6 * j + 5) : zw_ra σ a q = zt_ru (σ (a + 5) j) := by unfold zw_ra; rw [if_neg (by omega), if_neg (by omega), if_neg (by omega), if_neg (by omega), if_neg (by omega), show q / 6 = j by omega]
end ZWR
/-- an ORDER that can be done -/
def zw_oo (σ : zq_S) (a : Int) : Prop := (σ a 4 ≠ 0 → σ a 5 ≠ 3 ∧ σ a 5 ≤ 4) ∧ ∀ j, 0 ≤ j → j < σ a 6 → σ (a + 2) j ≠ 3 ∧ (σ (a + 4) j = 0 ∨ zt_sn (σ (a + 4) j) ≠ 0)
/-- what was changed since stands in the log -/
def zw_lg (σ τ : zq_S) (b : Int) : Prop := (∀ i, i < 264 → zw_un (τ (b + 4)) (τ (b + 5)) (τ b 6) (zw_cs τ b) i = zw_un (σ (b + 4)) (σ (b + 5)) (σ b 6) (zw_cs σ b) i) ∧ ((∀ j, 0 ≤ j → j < σ b 6 → 0 ≤ σ (b + 4) j ∧ σ (b + 4) j < 264) → ∀ j, 0 ≤ j → j < τ b 6 → 0 ≤ τ (b + 4) j ∧ τ (b + 4) j < 264)
theorem zw_lg_r (σ : zq_S) (b : Int) : zw_lg σ σ b := ⟨fun _ _ => rfl, fun h => h⟩
theorem zw_lg_t {σ τ π : zq_S} {b : Int} (h : zw_lg σ τ b) (k : zw_lg τ π b) : zw_lg σ π b := ⟨fun i hi => (k.1 i hi).trans (h.1 i hi), fun q => k.2 (h.2 q)⟩
theorem zw_lg_s {σ τ : zq_S} {b : Int} (h6 : τ b 6 = σ b 6) (ha : ∀ i, τ (b + 4) i = σ (b + 4) i) (hf : ∀ i, τ (b + 5) i = σ (b + 5) i) (hs : ∀ i, i < 264 → zw_cs τ b i = zw_cs σ b i) : zw_lg σ τ b := by
  refine ⟨fun i hi => ?_, fun q j j0 j1 => ?_⟩
  · rw [h6]; exact zw_un_c (fun j _ _ => ⟨ha j, hf j⟩) (hs i hi)
  · rw [ha]; exact q j j0 (by omega)
theorem zw_lg_p {σ τ : zq_S} {b x v : Int} (h0 : 0 ≤ σ b 6) (h6 : τ b 6 = σ b 6 + 1) (ha : ∀ i, τ (b + 4) i = if i = σ b 6 then x else σ (b + 4) i) (hf : ∀ i, τ (b + 5) i = if i = σ b 6 then zw_cs σ b x else σ (b + 5) i) (hs : zw_cs τ b = zw_up (zw_cs σ b) x v) (hx : 0 ≤ x ∧ x < 264) : zw_lg σ τ b := by
  refine ⟨fun i hi => ?_, fun q j j0 j1 => ?_⟩
  · rw [h6, hs, zw_un_p h0 (by rw [ha, if_pos rfl]) (by rw [hf, if_pos rfl])]
    exact zw_un_c (fun j j0 j1 => ⟨by rw [ha, if_neg (by omega)], by rw [hf, if_neg (by omega)]⟩) rfl
  · rw [ha]
    by_cases c : j = σ b 6
    · rw [if_pos c]; exact hx
    · rw [if_neg c]; exact q j j0 (by omega)
theorem zw_vl_0 {F s A : Int → Int} {m p x : Int} (ok : zw_ok F s m) (hs : A (p + 3) = 0) (hx : x = zw_va F s m (A (p + 1)) (A (p + 2))) (hb : 0 ≤ x ∧ x ≤ m) : x = zw_vl F s m A p := by
  unfold zw_vl
  rw [← hx, hs]
  unfold zw_rk
  rw [if_neg (by decide), if_neg (by decide), if_neg (by decide), if_neg (by decide), if_neg (by decide), if_neg (by decide), ok.2.2.2.2.2.1.2.2 x hb.1 hb.2]
theorem zw_vl_1 {F s A : Int → Int} {m p x y c r : Int} (ok : zw_ok F s m) (hs : A (p + 3) = zt_sn c) (hc : zt_sn c ≠ 0) (hx : x = zw_va F s m (A (p + 1)) (A (p + 2))) (hy : y = zw_va F s m (A (p + 4)) (A (p + 5))) (bx : 0 ≤ x ∧ x ≤ m) (bY : 0 ≤ y ∧ y ≤ m) (hr : r = if c = 43 then zq_and (x + y) m else if c = 45 then zq_and (x - y) m else if c = 38 then zq_and x y else if c = 124 then zq_or x y else if c = 94 then zq_xor x y else if x < y then 1 else 0) : r = zw_vl F s m A p := by
  have sb := zt_sn_b c
  rw [hr, zw_cmb ok bx bY hc]
  unfold zw_vl
  rw [← hx, hs, if_pos (by omega), ← hy]
theorem zw_gw {F s : Int → Int} {m d : Int} (h0 : 0 ≤ d) (h : d ≠ 3 ∧ d ≤ 4) : zw_va F s m (zt_rc d) (zt_ru d) = if d = 4 then s 264 else s (F d) := by
  rw [(zt_rc_b d).2 (by omega)]
  by_cases c : d = 4
  · rw [if_pos c, zw_va_4 c]
  · rw [if_neg c, zw_va_0 (by omega)]
/-- p is told anew -/
theorem zw_ok_p {F G s : Int → Int} {m v : Int} (h : zw_ok F s m) (hg : (∀ f, 0 ≤ f → f ≤ 2 → 0 ≤ G f ∧ G f ≤ 7) ∧ (0 ≤ G 3 ∧ G 3 ≤ m)) (hv : 0 ≤ v ∧ v ≤ 63) : zw_ok G (zw_up s 265 v) m := by
  obtain ⟨h1, h2, h3, h4, h5, h6⟩ := h
  refine ⟨hg.1, hg.2, fun i i0 i1 => ?_, ?_, ?_, h6⟩
  · show 0 ≤ (if i = 265 then v else s i) ∧ (if i = 265 then v else s i) ≤ m
    rw [if_neg (by omega)]; exact h3 i i0 i1
  · show 0 ≤ (if (264 : Int) = 265 then v else s 264) ∧ (if (264 : Int) = 265 then v else s 264) ≤ 1
    rw [if_neg (by decide)]; exact h4
  · show 0 ≤ (if (265 : Int) = 265 then v else s 265) ∧ (if (265 : Int) = 265 then v else s 265) ≤ 63
    rw [if_pos rfl]; exact hv
theorem zw_ra_fr {σ τ : zq_S} {a : Int} (h : ∀ k i, 2 ≤ k → k ≤ 5 → τ (a + k) i = σ (a + k) i) : zw_ra τ a = zw_ra σ a := by
  funext q
  unfold zw_ra
  rw [h 2 _ (by decide) (by decide), h 3 _ (by decide) (by decide), h 4 _ (by decide) (by decide), h 5 _ (by decide) (by decide)]
theorem zw_oo_fr {σ τ : zq_S} {a : Int} (h4 : τ a 4 = σ a 4) (h5 : τ a 5 = σ a 5) (h6 : τ a 6 = σ a 6) (h : ∀ k i, 2 ≤ k → k ≤ 5 → τ (a + k) i = σ (a + k) i) (o : zw_oo σ a) : zw_oo τ a := by
  unfold zw_oo
  rw [h4, h5, h6]
  refine ⟨o.1, fun j j0 j1 => ?_⟩
  rw [h 2 _ (by decide) (by decide), h 4 _ (by decide) (by decide)]
  exact o.2 j j0 j1
