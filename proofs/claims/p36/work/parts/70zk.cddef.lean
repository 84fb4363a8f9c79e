/-! ===== CODE and SHEETS: what is put, loaded, written ===== -/
def zu_pt (place bits B r : Int) (c c' : Int → Int) : Prop := (0 ≤ place ∧ place ≤ 63 ∧ 0 ≤ bits ∧ bits < B → r = c place ∧ ∀ i, c' i = if i = place then bits else c i) ∧ (¬ (0 ≤ place ∧ place ≤ 63 ∧ 0 ≤ bits ∧ bits < B) → r = -1 ∧ ∀ i, c' i = c i)
def zu_lok (sheet lane from_ place n B : Int) (ln sz it : Int → Int) : Prop := (0 ≤ sheet ∧ sheet ≤ 3 ∧ 0 ≤ lane ∧ lane ≤ 2 ∧ 0 ≤ n ∧ n ≤ 30 ∧ 0 ≤ place ∧ place + n ≤ 64) ∧ ln sheet = lane ∧ (0 ≤ from_ ∧ from_ ≤ sz sheet - n) ∧ ∀ i, 0 ≤ i → i < n → 0 ≤ it (from_ + i) ∧ it (from_ + i) < B
/-- CODE behind a load -/
def zu_lc (sheet lane from_ place n B : Int) (ln sz it c c' : Int → Int) : Prop := (zu_lok sheet lane from_ place n B ln sz it → ∀ i, 0 ≤ i → i < 64 → c' i = if place ≤ i ∧ i < place + n then it (from_ + (i - place)) else c i) ∧ (¬ zu_lok sheet lane from_ place n B ln sz it → ∀ i, 0 ≤ i → i < 64 → c' i = c i)
theorem zu_lc_n {sheet lane from_ place n B : Int} {ln sz it c c' : Int → Int} (h : ¬ zu_lok sheet lane from_ place n B ln sz it ∨ n = 0) (hc : ∀ i, c' i = c i) : zu_lc sheet lane from_ place n B ln sz it c c' := ⟨fun q i i0 i1 => by
  rcases h with z | z
  · exact absurd q z
  · rw [if_neg (by omega)]; exact hc i, fun _ i _ _ => hc i⟩
theorem zu_lc_y {sheet lane from_ place n B : Int} {ln sz it c c' : Int → Int} (h : zu_lok sheet lane from_ place n B ln sz it) (hc : ∀ i, 0 ≤ i → i < 64 → c' i = if place ≤ i ∧ i < place + n then it (from_ + (i - place)) else c i) : zu_lc sheet lane from_ place n B ln sz it c c' := ⟨fun _ => hc, fun q => absurd h q⟩
def zu_cut (lane v : Int) : Int := if lane = 0 then zq_byte v else if lane = 1 then zq_short v else v
/-- a variable's number is below V -/
def zs_vv (v : Int) (G : zq_S) : Prop := ∀ i, 0 ≤ i → i < G 0 43 → G 25 i = 0 → G 26 i < v
section ZSV
variable {v : Int} {G : zq_S}
theorem zs_vv_up {a i x : Int} (h1 : ¬ (a = 0 ∧ i = 43)) (h2 : a ≠ 25) (h3 : a ≠ 26) (h : zs_vv v G) : zs_vv v (zq_up G a i x) := fun k k0 k1 => by
  rw [zq_up_ne (by omega)] at k1
  rw [zq_up_ne (by omega), zq_up_ne (by omega)]
  exact h k k0 k1
theorem zs_vv_add {K W L R : Int} (hK : K = 0 → W < v) (h : zs_vv v G) : zs_vv v (zs_add G K W L R) := fun k k0 k1 => by
  rw [zs_add_n] at k1
  by_cases c : k = G 0 43
  · rw [c, zs_add_25, zs_add_26]; exact hK
  · rw [zs_add_e c (by omega), zs_add_e c (by omega)]
    exact h k k0 (by omega)
theorem zs_vv_hg (d x : Int) (h : zs_vv v G) : zs_vv v (zs_hg G d x) := by
  by_cases c : G 29 d < 0
  · rw [zs_hg_y x c]
    exact zs_vv_up (by omega) (by omega) (by omega) h
  · rw [zs_hg_n x c]
    exact zs_vv_up (by omega) (by omega) (by omega) (zs_vv_add (fun q => absurd q (by omega)) h)
theorem zs_vv_run {t : Int → Int} {n m : Int} : ∀ (k : Nat) (ph d x : Int) (G : zq_S), zs_vv v G → zs_vv v (zs_run t n v m k ph d x G).2 := by
  intro k
  induction k with
  | zero => intro ph d x G h; exact h
  | succ k ih =>
    intro ph d x G h
    have fa : zs_vv v (zs_fa t n G) := zs_vv_up (by omega) (by omega) (by omega) h
    show zs_vv v (if ph = 0 then
      if zt_nx t n (G 0 15) = 40 then (if d = 6 then (0, zs_fa t n G) else zs_run t n v m k 0 (d + 1) 0 (zs_op t n G d))
      else if 20 ≤ G 0 44 then (0, zs_fa t n G)
      else if 97 ≤ zt_nx t n (G 0 15) ∧ zt_nx t n (G 0 15) < 97 + v then zs_run t n v m k 1 d (G 0 43) (zs_va t n G)
      else if 0 ≤ zt_nuR t n 255 (G 0 15) then zs_run t n v m k 1 d (G 0 43) (zs_li t n m G)
      else (0, zs_fa t n G)
    else
      if 0 < zt_sn (zt_nx t n (G 0 15)) then zs_run t n v m k 0 d 0 (zs_sg t n G d x)
      else if zt_nx t n (G 0 15) = 41 ∧ 0 < d then zs_run t n v m k 1 (d - 1) (zs_hg G d x 29 d) (zs_cl t n G d x)
      else (if zt_nx t n (G 0 15) = -1 ∧ d = 0 then 1 else 0, zs_en t n G d x)).2
    by_cases c1 : ph = 0
    · rw [if_pos c1]
      by_cases c2 : zt_nx t n (G 0 15) = 40
      · rw [if_pos c2]
        by_cases c3 : d = 6
        · rw [if_pos c3]; exact fa
        · rw [if_neg c3]
          exact ih _ _ _ _ (zs_vv_up (by omega) (by omega) (by omega) (zs_vv_up (by omega) (by omega) (by omega) h))
      · rw [if_neg c2]
        by_cases c3 : 20 ≤ G 0 44
        · rw [if_pos c3]; exact fa
        · rw [if_neg c3]
          by_cases c4 : 97 ≤ zt_nx t n (G 0 15) ∧ zt_nx t n (G 0 15) < 97 + v
          · rw [if_pos c4]
            exact ih _ _ _ _ (zs_vv_add (fun _ => by omega) (zs_vv_up (by omega) (by omega) (by omega) (zs_vv_up (by omega) (by omega) (by omega) h)))
          · rw [if_neg c4]
            by_cases c5 : 0 ≤ zt_nuR t n 255 (G 0 15)
            · rw [if_pos c5]
              exact ih _ _ _ _ (zs_vv_add (fun q => absurd q (by omega)) (zs_vv_up (by omega) (by omega) (by omega) (zs_vv_up (by omega) (by omega) (by omega) h)))
            · rw [if_neg c5]; exact fa
    · rw [if_neg c1]
      by_cases c2 : 0 < zt_sn (zt_nx t n (G 0 15))
      · rw [if_pos c2]
        exact ih _ _ _ _ (zs_vv_up (by omega) (by omega) (by omega) (zs_vv_up (by omega) (by omega) (by omega) (zs_vv_hg d x h)))
      · rw [if_neg c2]
        by_cases c3 : zt_nx t n (G 0 15) = 41 ∧ 0 < d
        · rw [if_pos c3]
          exact ih _ _ _ _ (zs_vv_up (by omega) (by omega) (by omega) (zs_vv_hg d x h))
        · rw [if_neg c3]
          exact zs_vv_up (by omega) (by omega) (by omega) (zs_vv_hg d x h)
theorem zs_vv_0 : zs_vv v (zs_0 G) := fun k k0 k1 => by
  have e : zs_0 G 0 43 = 0 := by
    unfold zs_0
    rw [zq_up_ne (by omega), zq_up_ne (by omega), zq_up_same]
  exact absurd k1 (by omega)
end ZSV
/-- V is no more than there are REGISTERS; variables of the sum are below -/
def zu_T8 (ρ : zq_S) : Prop := zm_V8 ρ ∧ ρ 0 35 ≤ zx_p2 (ρ 0 1)
theorem zu_T8_fr {ρ π : zq_S} (h1 : π 0 1 = ρ 0 1) (h35 : π 0 35 = ρ 0 35) (h36 : π 0 36 = ρ 0 36) (h37 : π 0 37 = ρ 0 37) (ha : ∀ a i, 21 ≤ a → a ≤ 24 → π a i = ρ a i) (h : zu_T8 ρ) : zu_T8 π := by
  unfold zu_T8 zm_V8
  rw [h1, h35, h36, h37]
  exact ⟨fun q i i0 i1 => by rw [ha 21 i (by omega) (by omega), ha 22 i (by omega) (by omega)]; exact h.1 q i i0 i1, h.2⟩
theorem zu_T8_0 {π : zq_S} (h36 : π 0 36 = 0) (h : π 0 35 ≤ zx_p2 (π 0 1)) : zu_T8 π := ⟨fun q => absurd q (by omega), h⟩
theorem zu_T8_sum {ρ π : zq_S} {u : Int} (kw : zs_Sr (ρ 10) (ρ 0 14) (ρ 0 35) (zx_p2 (ρ 0 0) - 1) u ρ π) (h1 : π 0 1 = ρ 0 1) (h35 : π 0 35 = ρ 0 35) (h : zu_T8 ρ) : zu_T8 π := by
  by_cases c : (zs_run (ρ 10) (ρ 0 14) (ρ 0 35) (zx_p2 (ρ 0 0) - 1) 100 0 0 0 (zs_0 ρ)).1 = 1
  · obtain ⟨k1, k2, k3, k4⟩ := kw.1 c
    have vv := zs_vv_run (t := ρ 10) (n := ρ 0 14) (v := ρ 0 35) (m := zx_p2 (ρ 0 0) - 1) 100 0 0 0 (zs_0 ρ) zs_vv_0
    refine ⟨fun _ i i0 i1 e => ?_, by rw [h1, h35]; exact h.2⟩
    rw [k3] at i1
    obtain ⟨y1, y2, -, -⟩ := k4 i i0 i1
    rw [y1] at e
    have z := vv i i0 i1 e
    rw [y2, h1]
    have := h.2
    omega
  · obtain ⟨k1, k2, k3, k4⟩ := kw.2 c
    exact zu_T8_fr h1 h35 k2 k3 k4 h
def zu_T4 (σ ρ : zq_S) : Prop := ∀ i, 0 ≤ i → i < 64 → ρ 14 i = σ 139 i
theorem zu_T4_fr {σ τ ρ π : zq_S} (hc : ∀ i, τ 139 i = σ 139 i) (hr : ∀ i, π 14 i = ρ 14 i) (h : zu_T4 σ ρ) : zu_T4 τ π := fun i i0 i1 => by rw [hc, hr]; exact h i i0 i1
theorem zu_T4_pt {σ τ ρ π : zq_S} {place bits B r u : Int} (g : zu_pt place bits B r (σ 139) (τ 139)) (k : zu_pt place bits B u (ρ 14) (π 14)) (h : zu_T4 σ ρ) : u = r ∧ zu_T4 τ π := by
  by_cases c : 0 ≤ place ∧ place ≤ 63 ∧ 0 ≤ bits ∧ bits < B
  · obtain ⟨g1, g2⟩ := g.1 c
    obtain ⟨k1, k2⟩ := k.1 c
    exact ⟨by rw [k1, g1]; exact h place c.1 (by omega), fun i i0 i1 => by rw [g2, k2, h i i0 i1]⟩
  · obtain ⟨g1, g2⟩ := g.2 c
    obtain ⟨k1, k2⟩ := k.2 c
    exact ⟨by rw [k1, g1], zu_T4_fr g2 k2 h⟩
def zu_T9 (σ ρ : zq_S) : Prop := ∀ s i, 0 ≤ s → s ≤ 3 → 0 ≤ i → i < 30 → ρ 40 (30 * s + i) = σ (280 + s) i
theorem zu_T9_fr {σ τ ρ π : zq_S} (hc : ∀ s i, 0 ≤ s → s ≤ 3 → τ (280 + s) i = σ (280 + s) i) (hr : ∀ i, π 40 i = ρ 40 i) (h : zu_T9 σ ρ) : zu_T9 τ π := fun s i s0 s3 i0 i1 => by rw [hc s i s0 s3, hr]; exact h s i s0 s3 i0 i1
theorem zu_T4_ld {σ τ ρ π : zq_S} {sheet lane from_ place n B : Int} (h9 : zu_T9 σ ρ) (hl : ∀ j, 0 ≤ j → j ≤ 3 → σ 277 j = ρ 38 j ∧ σ 278 j = ρ 39 j) (hz : ∀ j, 0 ≤ j → j ≤ 3 → ρ 39 j ≤ 30) (g : zu_lc sheet lane from_ place n B (σ 277) (σ 278) (σ (280 + sheet)) (σ 139) (τ 139)) (k : zu_lc sheet lane from_ place n B (ρ 38) (ρ 39) (fun i => ρ 40 (30 * sheet + i)) (ρ 14) (π 14)) (h : zu_T4 σ ρ) : zu_T4 τ π := by
  have e : zu_lok sheet lane from_ place n B (ρ 38) (ρ 39) (fun i => ρ 40 (30 * sheet + i)) ↔ zu_lok sheet lane from_ place n B (σ 277) (σ 278) (σ (280 + sheet)) := by
    unfold zu_lok
    constructor
    · rintro ⟨a, b, c, d⟩
      have z := hl sheet a.1 a.2.1
      have y := hz sheet a.1 a.2.1
      refine ⟨a, by rw [z.1]; exact b, by rw [z.2]; exact c, fun i i0 i1 => ?_⟩
      rw [← h9 sheet (from_ + i) a.1 a.2.1 (by omega) (by omega)]
      exact d i i0 i1
    · rintro ⟨a, b, c, d⟩
      have z := hl sheet a.1 a.2.1
      have y := hz sheet a.1 a.2.1
      rw [z.1] at b
      rw [z.2] at c
      refine ⟨a, b, c, fun i i0 i1 => ?_⟩
      show 0 ≤ ρ 40 (30 * sheet + (from_ + i)) ∧ ρ 40 (30 * sheet + (from_ + i)) < B
      rw [h9 sheet (from_ + i) a.1 a.2.1 (by omega) (by omega)]
      exact d i i0 i1
  by_cases c : zu_lok sheet lane from_ place n B (σ 277) (σ 278) (σ (280 + sheet))
  · intro i i0 i1
    have y := hz sheet c.1.1 c.1.2.1
    have z := (hl sheet c.1.1 c.1.2.1).2
    have c3 := c.2.2.1
    rw [g.1 c i i0 i1, k.1 (e.mpr c) i i0 i1]
    by_cases q : place ≤ i ∧ i < place + n
    · rw [if_pos q, if_pos q]
      exact h9 sheet _ c.1.1 c.1.2.1 (by omega) (by omega)
    · rw [if_neg q, if_neg q]
      exact h i i0 i1
  · intro i i0 i1
    rw [g.2 c i i0 i1, k.2 (fun q => c (e.mp q)) i i0 i1]
    exact h i i0 i1
theorem zq_sx24 (w : BitVec 32) : ((w <<< 24).sshiftRight 24).toInt = w.toInt.bmod 256 := by
  have h := w.isLt
  have p1 : (2 : Nat) ^ 24 = 16777216 := rfl
  have p2 : (2 : Nat) ^ 32 = 4294967296 := rfl
  have p3 : (2 : Int) ^ 24 = 16777216 := rfl
  have e0 : (w <<< 24).toNat = w.toNat * 16777216 % 4294967296 := by rw [BitVec.toNat_shiftLeft, Nat.shiftLeft_eq, p1, p2]
  have e1 := BitVec.toInt_eq_toNat_cond (w <<< 24)
  have e2 := BitVec.toInt_eq_toNat_cond w
  rw [p2] at e1 e2 h
  rw [BitVec.toInt_sshiftRight, Int.shiftRight_eq_div_pow, Int.bmod_def]
  have c1 : (((2 ^ 24 : Nat)) : Int) = 16777216 := by rw [p1]; rfl
  try rw [c1]
  try rw [p3]
  generalize (w <<< 24).toInt = A at e1 ⊢
  generalize (w <<< 24).toNat = a at e0 e1
  generalize w.toInt = B at e2 ⊢
  generalize w.toNat = n at e0 e2 h
  split at e1 <;> split at e2 <;> split <;> omega
theorem zq_sx16 (w : BitVec 32) : ((w <<< 16).sshiftRight 16).toInt = w.toInt.bmod 65536 := by
  have h := w.isLt
  have p1 : (2 : Nat) ^ 16 = 65536 := rfl
  have p2 : (2 : Nat) ^ 32 = 4294967296 := rfl
  have p3 : (2 : Int) ^ 16 = 65536 := rfl
  have e0 : (w <<< 16).toNat = w.toNat * 65536 % 4294967296 := by rw [BitVec.toNat_shiftLeft, Nat.shiftLeft_eq, p1, p2]
  have e1 := BitVec.toInt_eq_toNat_cond (w <<< 16)
  have e2 := BitVec.toInt_eq_toNat_cond w
  rw [p2] at e1 e2 h
  rw [BitVec.toInt_sshiftRight, Int.shiftRight_eq_div_pow, Int.bmod_def]
  have c1 : (((2 ^ 16 : Nat)) : Int) = 65536 := by rw [p1]; rfl
  try rw [c1]
  try rw [p3]
  generalize (w <<< 16).toInt = A at e1 ⊢
  generalize (w <<< 16).toNat = a at e0 e1
  generalize w.toInt = B at e2 ⊢
  generalize w.toNat = n at e0 e2 h
  split at e1 <;> split at e2 <;> split <;> omega
theorem zq_byte_s (v : Int) : zq_shr (zq_shl v 24) 24 = zq_byte v := by
  unfold zq_shr zq_shl zq_byte
  rw [Int32.ofInt_toInt, Int8.toInt_toInt32, Int32.toInt_toInt8]
  exact zq_sx24 (Int32.ofInt v).toBitVec
theorem zq_short_s (v : Int) : zq_shr (zq_shl v 16) 16 = zq_short v := by
  unfold zq_shr zq_shl zq_short
  rw [Int32.ofInt_toInt, Int16.toInt_toInt32, Int32.toInt_toInt16]
  exact zq_sx16 (Int32.ofInt v).toBitVec
