/-! ===== rows that agree are done alike ===== -/
def zw_sr (A B : Int → Int) (p q : Int) : Prop := B q = A p ∧ B (q + 1) = A (p + 1) ∧ B (q + 2) = A (p + 2) ∧ B (q + 3) = A (p + 3) ∧ B (q + 4) = A (p + 4) ∧ B (q + 5) = A (p + 5)
/-- operands and targets of an ACT in their bounds -/
def zw_rr (A : Int → Int) (p : Int) : Prop := (0 ≤ A p ∧ A p ≤ 9 ∧ A p ≠ 3) ∧ (0 ≤ A (p + 1) ∧ A (p + 1) ≤ 10) ∧ (0 ≤ A (p + 4) ∧ A (p + 4) ≤ 10)
section ZWX
variable {F G s t A B : Int → Int} {m p q w n g d : Int}
theorem zw_ad_c (hF : ∀ f, 0 ≤ f → f ≤ 3 → G f = F f) (hs : ∀ i, 0 ≤ i → i ≤ 265 → t i = s i) (ok : zw_ok F s m) (hw : 6 ≤ w ∧ w ≤ 9) : zw_ad G t w = zw_ad F s w := by
  unfold zw_ad
  by_cases c : w = 9
  · rw [if_pos c, if_pos c, hF 3 (by decide) (by decide)]
  · have f := ok.1 (w - 6) (by omega) (by omega)
    rw [if_neg c, if_neg c, hF (w - 6) (by omega) (by omega), hs _ f.1 (by omega)]
theorem zw_va_c (hF : ∀ f, 0 ≤ f → f ≤ 3 → G f = F f) (hs : ∀ i, 0 ≤ i → i ≤ 265 → t i = s i) (ok : zw_ok F s m) (hw : 0 ≤ w ∧ w ≤ 10) : zw_va G t m w n = zw_va F s m w n := by
  have m255 := ok.2.2.2.2.2.1.2.1
  by_cases c0 : w < 3
  · have f := ok.1 w hw.1 (by omega)
    rw [zw_va_0 c0, zw_va_0 c0, hF w hw.1 (by omega), hs _ f.1 (by omega)]
  · by_cases c3 : w = 3
    · rw [zw_va_3 c3, zw_va_3 c3, hF 3 (by decide) (by decide)]
    · by_cases c4 : w = 4
      · rw [zw_va_4 c4, zw_va_4 c4, hs 264 (by decide) (by decide)]
      · by_cases c5 : w = 5
        · rw [zw_va_5 c5, zw_va_5 c5, hs 265 (by decide) (by decide)]
        · by_cases c10 : w = 10
          · rw [zw_va_10 c10, zw_va_10 c10]
          · have a := zw_ad_b (w := w) ok (by omega)
            rw [zw_va_m (by omega), zw_va_m (by omega), zw_ad_c hF hs ok (by omega), hs _ (by omega) (by omega)]
theorem zw_vl_c (hF : ∀ f, 0 ≤ f → f ≤ 3 → G f = F f) (hs : ∀ i, 0 ≤ i → i ≤ 265 → t i = s i) (ok : zw_ok F s m) (hA : zw_sr A B p q) (hr : zw_rr A p) : zw_vl G t m B q = zw_vl F s m A p := by
  obtain ⟨a0, a1, a2, a3, a4, a5⟩ := hA
  unfold zw_vl
  rw [a1, a2, a3, a4, a5, zw_va_c hF hs ok hr.2.1, zw_va_c hF hs ok hr.2.2]
theorem zw_ix_c (hF : ∀ f, 0 ≤ f → f ≤ 3 → G f = F f) (hs : ∀ i, 0 ≤ i → i ≤ 265 → t i = s i) (ok : zw_ok F s m) (hw : 0 ≤ w ∧ w ≤ 9 ∧ w ≠ 3) : zw_ix G t w = zw_ix F s w := by
  unfold zw_ix
  by_cases c0 : w < 3
  · rw [if_pos c0, if_pos c0, hF w hw.1 (by omega)]
  · by_cases c4 : w = 4
    · rw [if_neg c0, if_neg c0, if_pos c4, if_pos c4]
    · by_cases c5 : w = 5
      · rw [if_neg c0, if_neg c0, if_neg c4, if_neg c4, if_pos c5, if_pos c5]
      · rw [if_neg c0, if_neg c0, if_neg c4, if_neg c4, if_neg c5, if_neg c5, zw_ad_c hF hs ok (by omega)]
theorem zw_ac_c (hF : ∀ f, 0 ≤ f → f ≤ 3 → G f = F f) (hs : ∀ i, 0 ≤ i → i ≤ 265 → t i = s i) (ok : zw_ok F s m) (hA : zw_sr A B p q) (hr : zw_rr A p) : ∀ i, 0 ≤ i → i ≤ 265 → zw_ac G m B q t i = zw_ac F m A p s i := by
  intro i i0 i1
  unfold zw_ac
  rw [zw_vl_c hF hs ok hA hr, hA.1, zw_ix_c hF hs ok hr.1]
  show (if i = _ then _ else t i) = (if i = _ then _ else s i)
  rw [hs i i0 i1]
theorem zw_asF_c (hF : ∀ f, 0 ≤ f → f ≤ 3 → G f = F f) (hs : ∀ i, 0 ≤ i → i ≤ 265 → t i = s i) (ok : zw_ok F s m) : ∀ k : Nat, (∀ j : Int, 0 ≤ j → j < k → zw_sr A B (p + 6 * j) (q + 6 * j) ∧ zw_rr A (p + 6 * j)) → ∀ i, 0 ≤ i → i ≤ 265 → zw_asF G m B q t k i = zw_asF F m A p s k i := by
  intro k
  induction k with
  | zero => intro _ i i0 i1; exact hs i i0 i1
  | succ k ih =>
    intro ha
    have ok' : zw_ok F (zw_asF F m A p s k) m := zw_ok_as ok k (fun j j0 j1 => (ha j j0 (by omega)).2.1)
    have hk := ha k (by omega) (by omega)
    exact zw_ac_c hF (ih (fun j j0 j1 => ha j j0 (by omega))) ok' hk.1 hk.2
theorem zw_gd_c (hF : ∀ f, 0 ≤ f → f ≤ 3 → G f = F f) (hs : ∀ i, 0 ≤ i → i ≤ 265 → t i = s i) (ok : zw_ok F s m) (hd : g ≠ 0 → 0 ≤ d ∧ d ≤ 4 ∧ d ≠ 3) : zw_gd G t g d ↔ zw_gd F s g d := by
  unfold zw_gd
  by_cases c : g = 0
  · exact ⟨fun _ => Or.inl c, fun _ => Or.inl c⟩
  · have hd' := hd c
    have e : (if d = 4 then t 264 else t (G d)) = (if d = 4 then s 264 else s (F d)) := by
      by_cases c4 : d = 4
      · rw [if_pos c4, if_pos c4, hs 264 (by decide) (by decide)]
      · have f := ok.1 d hd'.1 (by omega)
        rw [if_neg c4, if_neg c4, hF d hd'.1 (by omega), hs _ f.1 (by omega)]
    rw [e]
/-- an ORDER, told twice, is done alike -/
theorem zw_do_c {o u : Int} (hF : ∀ f, 0 ≤ f → f ≤ 3 → G f = F f) (hs : ∀ i, 0 ≤ i → i ≤ 265 → t i = s i) (ok : zw_ok F s m) (hd : g ≠ 0 → 0 ≤ d ∧ d ≤ 4 ∧ d ≠ 3) (ha : ∀ j : Int, 0 ≤ j → j < n → zw_sr A B (18 * o + 6 * j) (18 * u + 6 * j) ∧ zw_rr A (18 * o + 6 * j)) : ∀ i, 0 ≤ i → i ≤ 265 → zw_do G m B u g d n t i = zw_do F m A o g d n s i := by
  intro i i0 i1
  have hg := zw_gd_c (g := g) (d := d) hF hs ok hd
  by_cases c : zw_gd F s g d
  · rw [zw_do_y c, zw_do_y (hg.mpr c)]
    exact zw_asF_c hF hs ok n.toNat (fun j j0 j1 => ha j j0 (by omega)) i i0 i1
  · rw [zw_do_n c, zw_do_n (fun z => c (hg.mp z))]
    exact hs i i0 i1
end ZWX
/-- the class's ORDER as the reference's row -/
theorem zw_sr_ac {σ ρ : zq_S} {a o j : Int} (h : zu_ac σ ρ a o) (j0 : 0 ≤ j) (j1 : j < ρ 5 o) : zw_sr (ρ 6) (zw_ra σ a) (18 * o + 6 * j) (18 * 0 + 6 * j) := by
  obtain ⟨⟨e0, e1, e2, e3, e4, e5⟩, -⟩ := h.2.2.1 j j0 j1
  exact ⟨by rw [zw_ra_0 (j := j) (by omega), e0], by rw [zw_ra_1 (j := j) (by omega), e1], by rw [zw_ra_2 (j := j) (by omega), e2], by rw [zw_ra_3 (j := j) (by omega), e3], by rw [zw_ra_4 (j := j) (by omega), e4], by rw [zw_ra_5 (j := j) (by omega), e5]⟩
