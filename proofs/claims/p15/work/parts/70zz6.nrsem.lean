/-! ===== the narrow machine: what an ORDER rests on ===== -/
/-- operand w reads cell c; target t reads, may write it -/
def zn_rc (w c : Int) : Prop := (w < 3 ∧ c = w) ∨ (w = 4 ∧ c = 264) ∨ (w = 5 ∧ c = 265) ∨ (6 ≤ w ∧ w ≤ 9 ∧ ((8 ≤ c ∧ c < 12) ∨ (w < 9 ∧ c = w - 6)))
def zn_ri (w : Int) : Prop := w = 3 ∨ w = 9
def zn_tc (t c : Int) : Prop := 6 ≤ t ∧ t < 9 ∧ c = t - 6
def zn_wc (t c : Int) : Prop := (t < 3 ∧ c = t) ∨ (t = 4 ∧ c = 264) ∨ (t = 5 ∧ c = 265) ∨ (6 ≤ t ∧ 8 ≤ c ∧ c < 12)
def zn_rdA (A : Int → Int) (p c : Int) : Prop := zn_tc (A p) c ∨ zn_rc (A (p + 1)) c ∨ (0 < A (p + 3) ∧ zn_rc (A (p + 4)) c)
def zn_rdi (A : Int → Int) (p : Int) : Prop := A p = 9 ∨ zn_ri (A (p + 1)) ∨ (0 < A (p + 3) ∧ zn_ri (A (p + 4)))
/-- the ORDER reads cell c, reads i, may write cell c -/
def zn_rd (A : Int → Int) (o g d n c : Int) : Prop := (g ≠ 0 ∧ zn_rc d c) ∨ ∃ j, 0 ≤ j ∧ j < n ∧ zn_rdA A (18 * o + 6 * j) c
def zn_rI (A : Int → Int) (o n : Int) : Prop := ∃ j, 0 ≤ j ∧ j < n ∧ zn_rdi A (18 * o + 6 * j)
def zn_wr (A : Int → Int) (o n c : Int) : Prop := ∃ j, 0 ≤ j ∧ j < n ∧ zn_wc (A (18 * o + 6 * j)) c
/-- an ORDER as it must be -/
def zn_g (A : Int → Int) (o g d n : Int) : Prop := (g ≠ 0 → 0 ≤ d ∧ d ≤ 4 ∧ d ≠ 3) ∧ ∀ j, 0 ≤ j → j < n → zw_rr A (18 * o + 6 * j)
section ZNM
variable {i i' : Int} {r r' A : Int → Int} {w t p n o g d : Int}
theorem zn_ad_b (ok : zw_ok (zn_F i) r 3) (hw : 6 ≤ w ∧ w ≤ 9) : zw_ad (zn_F i) r w = (if w = 9 then i else r (w - 6)) ∧ 0 ≤ zw_ad (zn_F i) r w ∧ zw_ad (zn_F i) r w ≤ 3 := by
  refine ⟨?_, zw_ad_b ok hw⟩
  unfold zw_ad
  by_cases c : w = 9
  · rw [if_pos c, if_pos c, zn_F_3]
  · rw [if_neg c, if_neg c, zn_F_o (by omega)]
theorem zn_ad_c (ok : zw_ok (zn_F i) r 3) (ok' : zw_ok (zn_F i') r' 3) (hw : 6 ≤ w ∧ w ≤ 9) (hi : w = 9 → i' = i) (hr : w < 9 → r' (w - 6) = r (w - 6)) : zw_ad (zn_F i') r' w = zw_ad (zn_F i) r w := by
  rw [(zn_ad_b ok hw).1, (zn_ad_b ok' hw).1]
  by_cases c : w = 9
  · rw [if_pos c, if_pos c, hi c]
  · rw [if_neg c, if_neg c, hr (by omega)]
theorem zn_va_c {m : Int} (hw : 0 ≤ w ∧ w ≤ 10) (ok : zw_ok (zn_F i) r 3) (ok' : zw_ok (zn_F i') r' 3) (hi : zn_ri w → i' = i) (hr : ∀ c, zn_rc w c → r' c = r c) : zw_va (zn_F i') r' 3 w m = zw_va (zn_F i) r 3 w m := by
  by_cases c0 : w < 3
  · rw [zw_va_0 c0, zw_va_0 c0, zn_F_o (by omega), zn_F_o (by omega)]
    exact hr w (Or.inl ⟨c0, rfl⟩)
  · by_cases c3 : w = 3
    · rw [zw_va_3 c3, zw_va_3 c3, zn_F_3, zn_F_3]
      exact hi (Or.inl c3)
    · by_cases c4 : w = 4
      · rw [zw_va_4 c4, zw_va_4 c4]
        exact hr 264 (Or.inr (Or.inl ⟨c4, rfl⟩))
      · by_cases c5 : w = 5
        · rw [zw_va_5 c5, zw_va_5 c5, hr 265 (Or.inr (Or.inr (Or.inl ⟨c5, rfl⟩)))]
        · by_cases c10 : w = 10
          · rw [zw_va_10 c10, zw_va_10 c10]
          · have b := (zn_ad_b ok (w := w) (by omega)).2
            rw [zw_va_m (by omega), zw_va_m (by omega), zn_ad_c ok ok' (by omega) (fun q => hi (Or.inr q)) (fun q => hr _ (Or.inr (Or.inr (Or.inr ⟨by omega, by omega, Or.inr ⟨q, rfl⟩⟩))))]
            exact hr _ (Or.inr (Or.inr (Or.inr ⟨by omega, by omega, Or.inl ⟨by omega, by omega⟩⟩)))
theorem zn_ix_c (ht : 0 ≤ t ∧ t ≤ 9 ∧ t ≠ 3) (ok : zw_ok (zn_F i) r 3) (ok' : zw_ok (zn_F i') r' 3) (hi : t = 9 → i' = i) (hr : ∀ c, zn_tc t c → r' c = r c) : zw_ix (zn_F i') r' t = zw_ix (zn_F i) r t := by
  unfold zw_ix
  by_cases c0 : t < 3
  · rw [if_pos c0, if_pos c0, zn_F_o (by omega), zn_F_o (by omega)]
  · by_cases c4 : t = 4
    · rw [if_neg c0, if_neg c0, if_pos c4, if_pos c4]
    · by_cases c5 : t = 5
      · rw [if_neg c0, if_neg c0, if_neg c4, if_neg c4, if_pos c5, if_pos c5]
      · rw [if_neg c0, if_neg c0, if_neg c4, if_neg c4, if_neg c5, if_neg c5, zn_ad_c ok ok' (by omega) hi (fun q => hr _ ⟨by omega, q, rfl⟩)]
/-- where an ACT writes -/
theorem zn_ix_w (ht : 0 ≤ t ∧ t ≤ 9 ∧ t ≠ 3) (ok : zw_ok (zn_F i) r 3) : zn_wc t (zw_ix (zn_F i) r t) := by
  unfold zw_ix zn_wc
  by_cases c0 : t < 3
  · rw [if_pos c0, zn_F_o (by omega)]; exact Or.inl ⟨c0, rfl⟩
  · rw [if_neg c0]
    by_cases c4 : t = 4
    · rw [if_pos c4]; exact Or.inr (Or.inl ⟨c4, rfl⟩)
    · rw [if_neg c4]
      by_cases c5 : t = 5
      · rw [if_pos c5]; exact Or.inr (Or.inr (Or.inl ⟨c5, rfl⟩))
      · have b := (zn_ad_b ok (w := t) (by omega)).2
        rw [if_neg c5]; exact Or.inr (Or.inr (Or.inr (by omega)))
/-- rows that agree but in cells that are not read -/
def zn_ag (u : Int → Prop) (r r' s s' : Int → Int) : Prop := ∀ c, (¬ u c → s' c = s c) ∧ (u c → s' c = s c ∨ (s c = r c ∧ s' c = r' c))
theorem zn_ac_c {u : Int → Prop} {s s' : Int → Int} (hp : zw_rr A p) (ok : zw_ok (zn_F i) s 3) (ok' : zw_ok (zn_F i') s' 3) (hu : ∀ c, u c → ¬ zn_rdA A p c) (hi : i' ≠ i → ¬ zn_rdi A p) (h : zn_ag u r r' s s') : zn_ag u r r' (zw_ac (zn_F i) 3 A p s) (zw_ac (zn_F i') 3 A p s') := by
  have ii : zn_rdi A p → i' = i := fun q => by
    by_cases c : i' = i
    · exact c
    · exact absurd q (hi c)
  have rr : ∀ c, zn_rdA A p c → s' c = s c := fun c q => (h c).1 (fun k => hu c k q)
  have ex : zw_ix (zn_F i') s' (A p) = zw_ix (zn_F i) s (A p) := zn_ix_c hp.1 ok ok' (fun q => ii (Or.inl q)) (fun c q => rr c (Or.inl q))
  have ev : zw_vl (zn_F i') s' 3 A p = zw_vl (zn_F i) s 3 A p := by
    unfold zw_vl
    rw [zn_va_c hp.2.1 ok ok' (fun q => ii (Or.inr (Or.inl q))) (fun c q => rr c (Or.inr (Or.inl q)))]
    by_cases c : 0 < A (p + 3)
    · rw [if_pos c, if_pos c, zn_va_c hp.2.2 ok ok' (fun q => ii (Or.inr (Or.inr ⟨c, q⟩))) (fun x q => rr x (Or.inr (Or.inr ⟨c, q⟩)))]
    · rw [if_neg c, if_neg c]
  intro c
  unfold zw_ac
  rw [ex, ev]
  show (¬ u c → (if c = _ then _ else s' c) = (if c = _ then _ else s c)) ∧ (u c → (if c = _ then _ else s' c) = (if c = _ then _ else s c) ∨ ((if c = _ then _ else s c) = r c ∧ (if c = _ then _ else s' c) = r' c))
  by_cases q : c = zw_ix (zn_F i) s (A p)
  · rw [if_pos q, if_pos q]; exact ⟨fun _ => rfl, fun _ => Or.inl rfl⟩
  · rw [if_neg q, if_neg q]; exact h c
theorem zn_as_c {u : Int → Prop} (ok : zw_ok (zn_F i) r 3) (ok' : zw_ok (zn_F i') r' 3) (h0 : ∀ c, ¬ u c → r' c = r c) : ∀ k : Nat, (∀ j : Int, 0 ≤ j → j < k → zw_rr A (p + 6 * j) ∧ (∀ c, u c → ¬ zn_rdA A (p + 6 * j) c) ∧ (i' ≠ i → ¬ zn_rdi A (p + 6 * j))) → zn_ag u r r' (zw_asF (zn_F i) 3 A p r k) (zw_asF (zn_F i') 3 A p r' k) := by
  intro k
  induction k with
  | zero => intro _ c; exact ⟨h0 c, fun _ => Or.inr ⟨rfl, rfl⟩⟩
  | succ k ih =>
    intro ha
    have q := ih (fun j j0 j1 => ha j j0 (by omega))
    have a := ha k (by omega) (by omega)
    exact zn_ac_c a.1 (zw_ok_as ok k (fun j j0 j1 => (ha j j0 (by omega)).1.1)) (zw_ok_as ok' k (fun j j0 j1 => (ha j j0 (by omega)).1.1)) a.2.1 a.2.2 q
theorem zn_gd_c (hd : g ≠ 0 → 0 ≤ d ∧ d ≤ 4 ∧ d ≠ 3) (h : ∀ c, g ≠ 0 → zn_rc d c → r' c = r c) : zw_gd (zn_F i') r' g d ↔ zw_gd (zn_F i) r g d := by
  unfold zw_gd
  by_cases c : g = 0
  · exact ⟨fun _ => Or.inl c, fun _ => Or.inl c⟩
  · have q := hd c
    have e : (if d = 4 then r' 264 else r' (zn_F i' d)) = (if d = 4 then r 264 else r (zn_F i d)) := by
      by_cases c4 : d = 4
      · rw [if_pos c4, if_pos c4]; exact h 264 c (Or.inr (Or.inl ⟨c4, rfl⟩))
      · rw [if_neg c4, if_neg c4, zn_F_o (by omega), zn_F_o (by omega)]; exact h d c (Or.inl ⟨by omega, rfl⟩)
    rw [e]
theorem zn_do_c {u : Int → Prop} (hg : zn_g A o g d n) (ok : zw_ok (zn_F i) r 3) (ok' : zw_ok (zn_F i') r' 3) (h0 : ∀ c, ¬ u c → r' c = r c) (hu : ∀ c, u c → ¬ zn_rd A o g d n c) (hi : i' ≠ i → ¬ zn_rI A o n) : zn_ag u r r' (zw_do (zn_F i) 3 A o g d n r) (zw_do (zn_F i') 3 A o g d n r') := by
  have e := zn_gd_c (i := i) (i' := i') (r := r) (r' := r') hg.1 (fun c q k => h0 c (fun z => hu c z (Or.inl ⟨q, k⟩)))
  by_cases c : zw_gd (zn_F i) r g d
  · rw [zw_do_y c, zw_do_y (e.mpr c)]
    exact zn_as_c ok ok' h0 n.toNat (fun j j0 j1 => ⟨hg.2 j j0 (by omega), fun x q k => hu x q (Or.inr ⟨j, j0, by omega, k⟩), fun q k => hi q ⟨j, j0, by omega, k⟩⟩)
  · rw [zw_do_n c, zw_do_n (fun q => c (e.mp q))]
    exact fun c => ⟨h0 c, fun _ => Or.inr ⟨rfl, rfl⟩⟩
/-- what is not written stays -/
theorem zn_as_w {c : Int} (ok : zw_ok (zn_F i) r 3) : ∀ k : Nat, (∀ j : Int, 0 ≤ j → j < k → zw_rr A (p + 6 * j) ∧ ¬ zn_wc (A (p + 6 * j)) c) → zw_asF (zn_F i) 3 A p r k c = r c := by
  intro k
  induction k with
  | zero => intro _; rfl
  | succ k ih =>
    intro ha
    have q := ih (fun j j0 j1 => ha j j0 (by omega))
    have a := ha k (by omega) (by omega)
    have ok2 := zw_ok_as ok k (fun j j0 j1 => (ha j j0 (by omega)).1.1)
    show (if c = zw_ix (zn_F i) (zw_asF (zn_F i) 3 A p r k) (A (p + 6 * k)) then _ else zw_asF (zn_F i) 3 A p r k c) = r c
    rw [if_neg (fun e => a.2 (by rw [e]; exact zn_ix_w a.1.1 ok2)), q]
theorem zn_do_w {c : Int} (hg : zn_g A o g d n) (ok : zw_ok (zn_F i) r 3) (h : ¬ zn_wr A o n c) : zw_do (zn_F i) 3 A o g d n r c = r c := by
  by_cases q : zw_gd (zn_F i) r g d
  · rw [zw_do_y q]
    exact zn_as_w ok n.toNat (fun j j0 j1 => ⟨hg.2 j j0 (by omega), fun k => h ⟨j, j0, by omega, k⟩⟩)
  · rw [zw_do_n q]
end ZNM
/-! on slots -/
theorem zn_z_i {x y : Int} (hx : 0 ≤ x ∧ x ≤ 8) (hy : 0 ≤ y ∧ y ≤ 8) (h : zn_z x = zn_z y) : x = y := by
  have a := zn_z_b hx
  have b := zn_z_b hy
  omega
def zn_un (A : Int → Int) (o g d n x : Int) (s t : Int → Int) (u v : Int) : Prop := (∃ y, 0 ≤ y ∧ y ≤ 8 ∧ y ≠ x ∧ zn_o A o g d n s y ≠ zn_o A o g d n t y) ∨ (zn_o A o g d n s x ≠ zn_o A o g d n t x ∧ (zn_o A o g d n s x ≠ u ∨ zn_o A o g d n t x ≠ v))
/-- store x is read there -/
def zn_rs (A : Int → Int) (o g d n x : Int) (s : Int → Int) : Prop := ∃ u v, 0 ≤ u ∧ u < v ∧ v < zn_v x ∧ zn_un A o g d n x (zw_up s x u) (zw_up s x v) u v
def zn_P (A : Int → Int) (o g d n x : Int) : Prop := ∃ s, zn_st s ∧ zn_rs A o g d n x s
theorem zn_st_up {s : Int → Int} {x v : Int} (h : zn_st s) (hv : 0 ≤ v ∧ v < zn_v x) : zn_st (zw_up s x v) := fun y y0 y9 => by
  show 0 ≤ (if y = x then v else s y) ∧ (if y = x then v else s y) < zn_v y
  by_cases c : y = x
  · rw [if_pos c, c]; exact hv
  · rw [if_neg c]; exact h y y0 y9
theorem zn_up_9 {s : Int → Int} {x v : Int} (h : x ≤ 8) : zw_up s x v 9 = s 9 := if_neg (by omega)
section ZNN
variable {A : Int → Int} {o g d n x : Int} {s t : Int → Int}
/-- a store that isn't read -/
theorem zn_P_n (hg : zn_g A o g d n) (hx : 0 ≤ x ∧ x ≤ 8) (h : ¬ zn_rd A o g d n (zn_z x)) : ¬ zn_P A o g d n x := by
  rintro ⟨s, hs, u, v, u0, uv, vv, q⟩
  have s1 := zn_st_up (x := x) hs ⟨u0, by omega⟩ (v := u)
  have s2 := zn_st_up (x := x) hs ⟨by omega, vv⟩ (v := v)
  have k := zn_do_c (u := fun c => c = zn_z x) (i := s 9) (i' := s 9) (r := zn_row (zw_up s x u)) (r' := zn_row (zw_up s x v)) hg (by have z := zn_ok_st s1; rw [zn_up_9 hx.2] at z; exact z) (by have z := zn_ok_st s2; rw [zn_up_9 hx.2] at z; exact z) (fun c hc => by
      rw [zn_row_up hx, zn_row_up hx]
      show (if c = zn_z x then v else _) = (if c = zn_z x then u else _)
      rw [if_neg hc, if_neg hc]) (fun c hc => by rw [hc]; exact h) (fun q => absurd rfl q)
  have e1 : ∀ y, zn_o A o g d n (zw_up s x u) y = zw_do (zn_F (s 9)) 3 A o g d n (zn_row (zw_up s x u)) (zn_z y) := fun y => by unfold zn_o; rw [zn_up_9 hx.2]
  have e2 : ∀ y, zn_o A o g d n (zw_up s x v) y = zw_do (zn_F (s 9)) 3 A o g d n (zn_row (zw_up s x v)) (zn_z y) := fun y => by unfold zn_o; rw [zn_up_9 hx.2]
  rcases q with ⟨y, y0, y8, yx, q⟩ | ⟨q1, q2⟩
  · rw [e1, e2] at q
    exact q ((k (zn_z y)).1 (fun e => yx (zn_z_i ⟨y0, y8⟩ hx e))).symm
  · rw [e1, e2] at q1 q2
    rcases (k (zn_z x)).2 rfl with z | ⟨z1, z2⟩
    · exact q1 z.symm
    · rw [z1, z2, zn_row_z hx, zn_row_z hx] at q2
      rcases q2 with q2 | q2
      · exact q2 (if_pos rfl)
      · exact q2 (if_pos rfl)
/-- slots that are not named at all don't matter -/
theorem zn_o_u {u : Int → Prop} (hg : zn_g A o g d n) (hs : zn_st s) (ht : zn_st t) (hu : ∀ y, 0 ≤ y → y ≤ 8 → u y → ¬ zn_rd A o g d n (zn_z y) ∧ ¬ zn_wr A o n (zn_z y)) (hi : t 9 ≠ s 9 → ¬ zn_rI A o n) (h : ∀ y, 0 ≤ y → y ≤ 8 → ¬ u y → t y = s y) : ∀ y, 0 ≤ y → y ≤ 8 → (¬ u y → zn_o A o g d n t y = zn_o A o g d n s y) ∧ (u y → zn_o A o g d n t y = t y ∧ zn_o A o g d n s y = s y) := by
  have k := zn_do_c (u := fun c => ∃ y, 0 ≤ y ∧ y ≤ 8 ∧ u y ∧ c = zn_z y) (i := s 9) (i' := t 9) (r := zn_row s) (r' := fun c => if 0 ≤ c then zn_row t c else zn_row s c) hg (zn_ok_st hs) (by
      obtain ⟨z1, z2, z3, z4, z5, z6⟩ := zn_ok_st ht
      refine ⟨z1, z2, fun c c0 c1 => ?_, z4, z5, z6⟩
      show 0 ≤ (if 0 ≤ c then zn_row t c else zn_row s c) ∧ (if 0 ≤ c then zn_row t c else zn_row s c) ≤ 3
      rw [if_pos c0]; exact z3 c c0 c1) (fun c hc => by
      show (if 0 ≤ c then zn_row t c else zn_row s c) = zn_row s c
      by_cases c0 : 0 ≤ c
      · rw [if_pos c0]
        by_cases a : c < 3
        · rw [zn_row_r a, zn_row_r a]; exact h c c0 (by omega) (fun q => hc ⟨c, c0, by omega, q, ((zn_z_b ⟨c0, by omega⟩).2.2.1 a).symm⟩)
        · by_cases b : 8 ≤ c ∧ c < 12
          · rw [zn_row_m b, zn_row_m b]; exact h _ (by omega) (by omega) (fun q => hc ⟨c - 3, by omega, by omega, q, by have z := (zn_z_b (x := c - 3) ⟨by omega, by omega⟩).2.2.2.2.2 (by omega); omega⟩)
          · by_cases e : c = 264
            · rw [e, zn_row_Z, zn_row_Z]; exact h 3 (by decide) (by decide) (fun q => hc ⟨3, by decide, by decide, q, e⟩)
            · by_cases f : c = 265
              · rw [f, zn_row_P, zn_row_P]; exact h 4 (by decide) (by decide) (fun q => hc ⟨4, by decide, by decide, q, f⟩)
              · rw [zn_row_0 (by omega) b e f, zn_row_0 (by omega) b e f]
      · rw [if_neg c0]) (fun c hc => by obtain ⟨y, y0, y8, uy, e⟩ := hc; rw [e]; exact (hu y y0 y8 uy).1) hi
  have et : zw_do (zn_F (t 9)) 3 A o g d n (zn_row t) = zw_do (zn_F (t 9)) 3 A o g d n (zn_row t) := rfl
  have ext : ∀ y, 0 ≤ y → y ≤ 8 → zw_do (zn_F (t 9)) 3 A o g d n (fun c => if 0 ≤ c then zn_row t c else zn_row s c) (zn_z y) = zn_o A o g d n t y := fun y y0 y8 => by
    have b := zn_z_b ⟨y0, y8⟩
    exact zw_do_c (fun _ _ _ => rfl) (fun c c0 _ => if_pos c0) (zn_ok_st ht) hg.1 (fun j j0 j1 => ⟨⟨rfl, rfl, rfl, rfl, rfl, rfl⟩, hg.2 j j0 j1⟩) _ b.1 b.2.1
  intro y y0 y8
  have b := zn_z_b ⟨y0, y8⟩
  refine ⟨fun q => ?_, fun q => ?_⟩
  · have z := (k (zn_z y)).1 (fun ⟨w, w0, w8, uw, e⟩ => q (by rw [zn_z_i ⟨y0, y8⟩ ⟨w0, w8⟩ e]; exact uw))
    rw [ext y y0 y8] at z
    exact z
  · have wn := (hu y y0 y8 q).2
    exact ⟨(zn_do_w hg (zn_ok_st ht) wn).trans (zn_row_z ⟨y0, y8⟩), (zn_do_w hg (zn_ok_st hs) wn).trans (zn_row_z ⟨y0, y8⟩)⟩
end ZNN

