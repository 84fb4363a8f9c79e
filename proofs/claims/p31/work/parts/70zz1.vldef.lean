/-! ===== what a SUM is ===== -/
/-- a number is a WORD -/
def zs_ww (m : Int) (G : zq_S) : Prop := ∀ i, 0 ≤ i → i < G 0 43 → G 25 i = 1 → G 26 i ≤ m
section ZSW
variable {m : Int} {G : zq_S}
theorem zs_ww_up {a i x : Int} (h1 : ¬ (a = 0 ∧ i = 43)) (h2 : a ≠ 25) (h3 : a ≠ 26) (h : zs_ww m G) : zs_ww m (zq_up G a i x) := fun k k0 k1 => by
  rw [zq_up_ne (by omega)] at k1
  rw [zq_up_ne (by omega), zq_up_ne (by omega)]
  exact h k k0 k1
theorem zs_ww_add {K W L R : Int} (hK : K = 1 → W ≤ m) (h : zs_ww m G) : zs_ww m (zs_add G K W L R) := fun k k0 k1 => by
  rw [zs_add_n] at k1
  by_cases c : k = G 0 43
  · rw [c, zs_add_25, zs_add_26]; exact hK
  · rw [zs_add_e c (by omega), zs_add_e c (by omega)]
    exact h k k0 (by omega)
theorem zs_ww_hg (d x : Int) (h : zs_ww m G) : zs_ww m (zs_hg G d x) := by
  by_cases c : G 29 d < 0
  · rw [zs_hg_y x c]
    exact zs_ww_up (by omega) (by omega) (by omega) h
  · rw [zs_hg_n x c]
    exact zs_ww_up (by omega) (by omega) (by omega) (zs_ww_add (fun q => absurd q (by omega)) h)
theorem zs_ww_run {t : Int → Int} {n v : Int} (hm : ∀ x, zq_and x m ≤ m) : ∀ (k : Nat) (ph d x : Int) (G : zq_S), zs_ww m G → zs_ww m (zs_run t n v m k ph d x G).2 := by
  intro k
  induction k with
  | zero => intro ph d x G h; exact h
  | succ k ih =>
    intro ph d x G h
    have fa : zs_ww m (zs_fa t n G) := zs_ww_up (by omega) (by omega) (by omega) h
    show zs_ww m (if ph = 0 then
      if zt_nx t n (G 0 15) = 40 then (if d = 6 then (0, zs_fa t n G) else zs_run t n v m k 0 (d + 1) 0 (zs_op t n G d))
      else if 20 ≤ G 0 44 then (0, zs_fa t n G)
      else if 97 ≤ zt_nx t n (G 0 15) ∧ zt_nx t n (G 0 15) < 97 + v then zs_run t n v m k 1 d (G 0 43) (zs_va t n G)
      else if 0 ≤ zt_nuR t n 255 (G 0 15) then zs_run t n v m k 1 d (G 0 43) (zs_li t n m G)
      else (0, zs_fa t n G)
    else
      if 0 < zt_sn (zt_nx t n (G 0 15)) then zs_run t n v m k 0 d 0 (zs_sg t n G d x)
      else if zt_nx t n (G 0 15) = 41 ∧ 0 < d then zs_run t n v m k 1 (d - 1) (zs_hg G d x 29 d) (zs_cl t n G d x)
      else (if zt_nx t n (G 0 15) = -1 ∧ d = 0 then 1 else 0, zs_en t n G d x)).2
    by_cases c1 : ph = 0
    · rw [if_pos c1]
      by_cases c2 : zt_nx t n (G 0 15) = 40
      · rw [if_pos c2]
        by_cases c3 : d = 6
        · rw [if_pos c3]; exact fa
        · rw [if_neg c3]
          exact ih _ _ _ _ (zs_ww_up (by omega) (by omega) (by omega) (zs_ww_up (by omega) (by omega) (by omega) h))
      · rw [if_neg c2]
        by_cases c3 : 20 ≤ G 0 44
        · rw [if_pos c3]; exact fa
        · rw [if_neg c3]
          by_cases c4 : 97 ≤ zt_nx t n (G 0 15) ∧ zt_nx t n (G 0 15) < 97 + v
          · rw [if_pos c4]
            exact ih _ _ _ _ (zs_ww_add (fun q => absurd q (by omega)) (zs_ww_up (by omega) (by omega) (by omega) (zs_ww_up (by omega) (by omega) (by omega) h)))
          · rw [if_neg c4]
            by_cases c5 : 0 ≤ zt_nuR t n 255 (G 0 15)
            · rw [if_pos c5]
              exact ih _ _ _ _ (zs_ww_add (fun _ => hm _) (zs_ww_up (by omega) (by omega) (by omega) (zs_ww_up (by omega) (by omega) (by omega) h)))
            · rw [if_neg c5]; exact fa
    · rw [if_neg c1]
      by_cases c2 : 0 < zt_sn (zt_nx t n (G 0 15))
      · rw [if_pos c2]
        exact ih _ _ _ _ (zs_ww_up (by omega) (by omega) (by omega) (zs_ww_up (by omega) (by omega) (by omega) (zs_ww_hg d x h)))
      · rw [if_neg c2]
        by_cases c3 : zt_nx t n (G 0 15) = 41 ∧ 0 < d
        · rw [if_pos c3]
          exact ih _ _ _ _ (zs_ww_up (by omega) (by omega) (by omega) (zs_ww_hg d x h))
        · rw [if_neg c3]
          exact zs_ww_up (by omega) (by omega) (by omega) (zs_ww_hg d x h)
theorem zs_ww_0 : zs_ww m (zs_0 G) := fun k k0 k1 => by
  have e : zs_0 G 0 43 = 0 := by
    unfold zs_0
    rw [zq_up_ne (by omega), zq_up_ne (by omega), zq_up_same]
  exact absurd k1 (by omega)
end ZSW
/-- numbers of the sum are WORDS -/
def zu_TA (ρ : zq_S) : Prop := ρ 0 36 = 1 → ∀ i, 0 ≤ i → i < ρ 0 37 → ρ 21 i = 1 → ρ 22 i ≤ zx_p2 (ρ 0 0) - 1
theorem zu_TA_fr {ρ π : zq_S} (h0 : π 0 0 = ρ 0 0) (h36 : π 0 36 = ρ 0 36) (h37 : π 0 37 = ρ 0 37) (ha : ∀ a i, 21 ≤ a → a ≤ 24 → π a i = ρ a i) (h : zu_TA ρ) : zu_TA π := by
  unfold zu_TA
  rw [h0, h36, h37]
  exact fun q i i0 i1 => by rw [ha 21 i (by omega) (by omega), ha 22 i (by omega) (by omega)]; exact h q i i0 i1
theorem zu_TA_0 {π : zq_S} (h36 : π 0 36 = 0) : zu_TA π := fun q => absurd q (by omega)
theorem zu_startA {σ ρ : zq_S} (_ : zu_C1 σ) (k : zu_R1 ρ) : zu_TA ρ := by
  obtain ⟨⟨-, -, -, -, -, -, -, -, r36, -⟩, -⟩ := k
  exact zu_TA_0 r36
theorem zu_TA_sum {ρ π : zq_S} {u : Int} (hρ : zx_T ρ) (kw : zs_Sr (ρ 10) (ρ 0 14) (ρ 0 35) (zx_p2 (ρ 0 0) - 1) u ρ π) (h0 : π 0 0 = ρ 0 0) (h : zu_TA ρ) : zu_TA π := by
  have mk := (zs_mk (zx_g0 hρ)).2.1
  by_cases c : (zs_run (ρ 10) (ρ 0 14) (ρ 0 35) (zx_p2 (ρ 0 0) - 1) 100 0 0 0 (zs_0 ρ)).1 = 1
  · obtain ⟨k1, k2, k3, k4⟩ := kw.1 c
    have vv := zs_ww_run (t := ρ 10) (n := ρ 0 14) (v := ρ 0 35) (m := zx_p2 (ρ 0 0) - 1) (fun x => (mk x).2) 100 0 0 0 (zs_0 ρ) zs_ww_0
    refine fun _ i i0 i1 e => ?_
    rw [k3] at i1
    obtain ⟨y1, y2, -, -⟩ := k4 i i0 i1
    rw [y1] at e
    rw [y2, h0]
    exact vv i i0 i1 e
  · obtain ⟨k1, k2, k3, k4⟩ := kw.2 c
    exact zu_TA_fr h0 k2 k3 k4 h
/-! one entry behind the other -/
def zv_o (E : (Int → Int) → Int → Int) (n : Int) (w : Int → Int) : Prop := ∀ j, 0 ≤ j → j < n → w j = E w j ∧ 0 ≤ w j ∧ w j ≤ 255
def zv_lo (E : (Int → Int) → Int → Int) (n : Int) : Prop := ∀ j w w', 0 ≤ j → j < n → (∀ i, 0 ≤ i → i < j → w' i = w i) → E w' j = E w j
theorem zv_o_0 {E : (Int → Int) → Int → Int} {w : Int → Int} : zv_o E 0 w := fun j j0 j1 => absurd j1 (by omega)
theorem zv_o_s {E : (Int → Int) → Int → Int} {n N v : Int} {w w' : Int → Int} (lo : zv_lo E N) (h : zv_o E n w) (n0 : 0 ≤ n) (nN : n < N) (hv : v = E w n) (b : 0 ≤ v ∧ v ≤ 255) (hw : ∀ j, w' j = if j = n then v else w j) : zv_o E (n + 1) w' := fun j j0 j1 => by
  have e : E w' j = E w j := lo j w w' j0 (by omega) (fun i i0 i1 => by rw [hw, if_neg (by omega)])
  rw [e, hw]
  by_cases c : j = n
  · rw [if_pos c, c]; exact ⟨hv, b⟩
  · rw [if_neg c]; exact h j j0 (by omega)
def zv_e (K V L R s : Int → Int) (m : Int) (w : Int → Int) (j : Int) : Int := if K j = 0 then s (V j) else if K j = 1 then V j else zq_and (zw_rk (V j) (w (L j)) (w (R j))) m
/-- children are ahead -/
def zv_c (K L R : Int → Int) (n : Int) : Prop := ∀ j, 0 ≤ j → j < n → K j = 2 → 0 ≤ L j ∧ L j < j ∧ 0 ≤ R j ∧ R j < j
theorem zv_lo_e {K V L R s : Int → Int} {m n : Int} (hK : ∀ j, 0 ≤ K j ∧ K j ≤ 2) (h : zv_c K L R n) : zv_lo (zv_e K V L R s m) n := fun j w w' j0 j1 hw => by
  unfold zv_e
  by_cases c0 : K j = 0
  · rw [if_pos c0, if_pos c0]
  · by_cases c1 : K j = 1
    · rw [if_neg c0, if_neg c0, if_pos c1, if_pos c1]
    · have k := hK j
      obtain ⟨a1, a2, a3, a4⟩ := h j j0 j1 (by omega)
      rw [if_neg c0, if_neg c0, if_neg c1, if_neg c1, hw _ a1 a2, hw _ a3 a4]
def zv_cm (c x y m : Int) : Int := if c = 43 then zq_and (x + y) m else if c = 45 then zq_and (x - y) m else if c = 38 then zq_and x y else if c = 124 then zq_or x y else if c = 94 then zq_xor x y else if x < y then 1 else 0
def zv_ce (σ : zq_S) (t m : Int) (w : Int → Int) (j : Int) : Int := if σ (t + 1) j = 1 then σ 142 (zq_and (σ (t + 2) j) 7) else if σ (t + 1) j = 2 then σ (t + 2) j else zv_cm (σ (t + 1) j) (w (σ (t + 3) j)) (w (σ (t + 4) j)) m
def zv_pc (σ : zq_S) (t : Int) : Prop := (∀ i, 0 ≤ i → i < 8 → 0 ≤ σ 142 i ∧ σ 142 i ≤ 255) ∧ ∀ j, 0 ≤ j → j < σ t 5 → (σ (t + 1) j = 2 → 0 ≤ σ (t + 2) j ∧ σ (t + 2) j ≤ 255) ∧ (σ (t + 1) j ≠ 1 → σ (t + 1) j ≠ 2 → 0 ≤ σ (t + 3) j ∧ σ (t + 3) j < j ∧ 0 ≤ σ (t + 4) j ∧ σ (t + 4) j < j)
theorem zv_lo_c {σ : zq_S} {t m : Int} (h : zv_pc σ t) : zv_lo (zv_ce σ t m) (σ t 5) := fun j w w' j0 j1 hw => by
  unfold zv_ce
  by_cases c0 : σ (t + 1) j = 1
  · rw [if_pos c0, if_pos c0]
  · by_cases c1 : σ (t + 1) j = 2
    · rw [if_neg c0, if_neg c0, if_pos c1, if_pos c1]
    · obtain ⟨a1, a2, a3, a4⟩ := (h.2 j j0 j1).2 c0 c1
      rw [if_neg c0, if_neg c0, if_neg c1, if_neg c1, hw _ a1 a2, hw _ a3 a4]
