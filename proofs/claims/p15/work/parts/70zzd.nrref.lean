/-! ===== the narrow machine: the reference's ===== -/
section ZNF
variable {σ τ : zq_S} {a X V w i k : Int} {A : Int → Int} {p : Int} {s : Int → Int}
/-- the address of MEMORY -/
theorem zn_fad {f r : Int} (h : 6 ≤ w ∧ w ≤ 9) (hf : f = w - 6) (hr : r = if f = 3 then i else s f) : zw_ad (zn_F i) (zn_row s) w = r := by
  unfold zw_ad
  rw [hr, hf]
  by_cases c : w = 9
  · rw [if_pos c, if_pos (by omega), zn_F_3]
  · rw [if_neg c, if_neg (by omega), zn_F_o (by omega), zn_row_r (by omega)]
theorem zn_fva {n r : Int} (hb : ∀ x, 0 ≤ s x ∧ s x ≤ 3) (hi : 0 ≤ i ∧ i ≤ 3) (hw : 0 ≤ w ∧ w ≤ 10) (h0 : w < 3 → r = s w) (h3 : w = 3 → r = i) (h4 : w = 4 → r = s 3) (h5 : w = 5 → r = s 4) (hn : w = 10 → r = zq_and n 3) (hm : 6 ≤ w → w ≤ 9 → ∃ q, q = (if w - 6 = 3 then i else s (w - 6)) ∧ r = s (5 + q)) : r = zw_va (zn_F i) (zn_row s) 3 w n := by
  by_cases c0 : w < 3
  · rw [zw_va_0 c0, zn_F_o (by omega), zn_row_r c0]; exact h0 c0
  · by_cases c3 : w = 3
    · rw [zw_va_3 c3, zn_F_3]; exact h3 c3
    · by_cases c4 : w = 4
      · rw [zw_va_4 c4, zn_row_Z]; exact h4 c4
      · by_cases c5 : w = 5
        · have b := hb 4
          rw [zw_va_5 c5, zn_row_P, zn_m3.1.2.2 _ b.1 b.2]; exact h5 c5
        · by_cases c10 : w = 10
          · rw [zw_va_10 c10]; exact hn c10
          · obtain ⟨q, q1, q2⟩ := hm (by omega) (by omega)
            have e := zn_fad (s := s) (i := i) (w := w) (f := w - 6) (r := q) ⟨by omega, by omega⟩ rfl q1
            have b : 0 ≤ q ∧ q ≤ 3 := by
              rw [q1]
              by_cases d : w - 6 = 3
              · rw [if_pos d]; exact hi
              · rw [if_neg d]; exact hb _
            rw [zw_va_m (by omega), e, zn_row_m (by omega), show 8 + q - 3 = 5 + q by omega]
            exact q2
/-- an ACT -/
theorem zn_dn (e : τ = zq_up σ a X V) (hX : 0 ≤ X ∧ X ≤ 8) (hx : zw_ix (zn_F i) (zn_row (σ a)) (A p) = zn_z X) (hv : zw_nv (A p) (zw_vl (zn_F i) (zn_row (σ a)) 3 A p) = V) : zn_row (τ a) = zw_ac (zn_F i) 3 A p (zn_row (σ a)) := by
  have es : τ a = zw_up (σ a) X V := funext (fun j => by
    rw [e]
    show _ = if j = X then V else σ a j
    by_cases c : j = X
    · rw [if_pos c, c, zq_up_same]
    · rw [if_neg c, zq_up_ne (by omega)])
  unfold zw_ac
  rw [es, zn_row_up hX, hx, hv]
end ZNF
/-! names as bits -/
def zr_ob (w k : Int) : Prop := (w < 3 ∧ k = w) ∨ (w = 3 ∧ k = 6) ∨ (w = 4 ∧ k = 3) ∨ (w = 5 ∧ k = 4) ∨ (6 ≤ w ∧ w ≤ 9 ∧ (k = 5 ∨ (w = 9 ∧ k = 6) ∨ (w < 9 ∧ k = w - 6)))
def zr_nb (w : Int) : Int := if w < 3 then zq_shl 1 w else if w = 3 then 64 else if w = 4 then 8 else if w = 5 then 16 else if w = 10 then 0 else zq_or 32 (if w = 9 then 64 else zq_shl 1 (w - 6))
theorem zr_nbF : ∀ w : Fin 11, (0 ≤ zr_nb ((w.val : Nat) : Int) ∧ zr_nb ((w.val : Nat) : Int) ≤ 127) ∧ ∀ k : Fin 7, ((zr_nb ((w.val : Nat) : Int)).toNat.testBit k.val = true ↔ ((w.val < 3 ∧ k.val = w.val) ∨ (w.val = 3 ∧ k.val = 6) ∨ (w.val = 4 ∧ k.val = 3) ∨ (w.val = 5 ∧ k.val = 4) ∨ (6 ≤ w.val ∧ w.val ≤ 9 ∧ (k.val = 5 ∨ (w.val = 9 ∧ k.val = 6) ∨ (w.val < 9 ∧ k.val + 6 = w.val))))) := by decide +kernel
theorem zr_nb_t {w : Int} (h : 0 ≤ w ∧ w ≤ 10) : (0 ≤ zr_nb w ∧ zr_nb w ≤ 127) ∧ ∀ k : Nat, k < 7 → (zw_tb (zr_nb w) k ↔ zr_ob w k) := by
  have q := zr_nbF ⟨w.toNat, by omega⟩
  have e : (((⟨w.toNat, by omega⟩ : Fin 11).val : Nat) : Int) = w := by show ((w.toNat : Nat) : Int) = w; omega
  rw [e] at q
  refine ⟨q.1, fun k hk => ?_⟩
  have z := q.2 ⟨k, hk⟩
  have z : zw_tb (zr_nb w) k ↔ ((w.toNat < 3 ∧ k = w.toNat) ∨ (w.toNat = 3 ∧ k = 6) ∨ (w.toNat = 4 ∧ k = 3) ∨ (w.toNat = 5 ∧ k = 4) ∨ (6 ≤ w.toNat ∧ w.toNat ≤ 9 ∧ (k = 5 ∨ (w.toNat = 9 ∧ k = 6) ∨ (w.toNat < 9 ∧ k + 6 = w.toNat)))) := z
  rw [z]
  unfold zr_ob
  omega
def zr_oa (A : Int → Int) (p k : Int) : Prop := zr_ob (A p) k ∨ zr_ob (A (p + 1)) k ∨ (0 < A (p + 3) ∧ zr_ob (A (p + 4)) k)
def zr_gb (g d k : Int) : Prop := 0 < g ∧ ((d = 4 ∧ k = 3) ∨ (d ≠ 4 ∧ k = d))
/-- bit k is named -/
def zr_me (A : Int → Int) (o g d n k : Int) : Prop := zr_gb g d k ∨ ∃ j, 0 ≤ j ∧ j < n ∧ zr_oa A (18 * o + 6 * j) k
def zr_nI (A : Int → Int) (o g d n N : Int) : Prop := (0 ≤ N ∧ N ≤ 127) ∧ ∀ k : Nat, k < 7 → (zw_tb N k ↔ zr_me A o g d n k)
theorem zr_or127 {a b : Int} (ha : 0 ≤ a ∧ a ≤ 127) (hb : 0 ≤ b ∧ b ≤ 127) : 0 ≤ zq_or a b ∧ zq_or a b ≤ 127 := by
  have z := zq_or_b (x := a) (y := b) 7 128 (by decide) (by decide) (by omega) (by omega)
  omega
theorem zr_nI_0 {A : Int → Int} {o g d N : Int} (hd : 0 ≤ d ∧ d ≤ 4) (h : N = if 0 < g then (if d = 4 then 8 else zq_shl 1 d) else 0) : zr_nI A o g d 0 N := by
  have f : ∀ d : Fin 5, (0 ≤ zq_shl 1 ((d.val : Nat) : Int) ∧ zq_shl 1 ((d.val : Nat) : Int) ≤ 127) ∧ ∀ k : Fin 7, ((zq_shl 1 ((d.val : Nat) : Int)).toNat.testBit k.val = true ↔ k.val = d.val) := by decide +kernel
  have q := f ⟨d.toNat, by omega⟩
  have e : (((⟨d.toNat, by omega⟩ : Fin 5).val : Nat) : Int) = d := by show ((d.toNat : Nat) : Int) = d; omega
  rw [e] at q
  have none : ∀ k : Int, ¬ ∃ j : Int, 0 ≤ j ∧ j < 0 ∧ zr_oa A (18 * o + 6 * j) k := fun k ⟨j, j0, j1, _⟩ => by omega
  by_cases c : 0 < g
  · rw [if_pos c] at h
    by_cases c4 : d = 4
    · rw [if_pos c4] at h
      rw [h]
      refine ⟨by decide, fun k hk => ?_⟩
      rw [zw_tb_2 3 (show (8 : Int) = ((2 ^ 3 : Nat) : Int) from rfl)]
      unfold zr_me zr_gb
      exact ⟨fun z => Or.inl ⟨c, Or.inl ⟨c4, by omega⟩⟩, fun z => z.elim (fun z => by omega) (fun z => absurd z (none k))⟩
    · rw [if_neg c4] at h
      rw [h]
      refine ⟨q.1, fun k hk => ?_⟩
      have z := q.2 ⟨k, hk⟩
      have z : zw_tb (zq_shl 1 d) k ↔ k = d.toNat := z
      rw [z]
      unfold zr_me zr_gb
      exact ⟨fun z => Or.inl ⟨c, Or.inr ⟨c4, by omega⟩⟩, fun z => z.elim (fun z => by omega) (fun z => absurd z (none k))⟩
  · rw [if_neg c] at h
    rw [h]
    refine ⟨by decide, fun k hk => ⟨fun z => absurd z zw_tb_0, fun z => z.elim (fun z => absurd z.1 c) (fun z => absurd z (none k))⟩⟩
theorem zr_nI_s {A : Int → Int} {o g d n N a b c : Int} (n0 : 0 ≤ n) (h : zr_nI A o g d n N) (h0 : 0 ≤ A (18 * o + 6 * n) ∧ A (18 * o + 6 * n) ≤ 10) (h1 : 0 ≤ A (18 * o + 6 * n + 1) ∧ A (18 * o + 6 * n + 1) ≤ 10) (h4 : 0 ≤ A (18 * o + 6 * n + 4) ∧ A (18 * o + 6 * n + 4) ≤ 10) (ha : a = zr_nb (A (18 * o + 6 * n))) (hb : b = zr_nb (A (18 * o + 6 * n + 1))) (hc : c = if 0 < A (18 * o + 6 * n + 3) then zr_nb (A (18 * o + 6 * n + 4)) else 0) : zr_nI A o g d (n + 1) (zq_or N (zq_or (zq_or a b) c)) := by
  have ta := zr_nb_t h0
  have tb := zr_nb_t h1
  have tc := zr_nb_t h4
  have bc : 0 ≤ c ∧ c ≤ 127 := by
    rw [hc]
    by_cases q : 0 < A (18 * o + 6 * n + 3)
    · rw [if_pos q]; exact tc.1
    · rw [if_neg q]; decide
  rw [← ha] at ta
  rw [← hb] at tb
  have o1 := zr_or127 ta.1 tb.1
  have o2 := zr_or127 o1 bc
  have hN := h.1
  refine ⟨zr_or127 hN o2, fun k hk => ?_⟩
  rw [zw_tb_or (by omega) (by omega), zw_tb_or (by omega) (by omega), zw_tb_or (by omega) (by omega), h.2 k hk, ta.2 k hk, tb.2 k hk]
  have ec : zw_tb c k ↔ (0 < A (18 * o + 6 * n + 3) ∧ zr_ob (A (18 * o + 6 * n + 4)) k) := by
    rw [hc]
    by_cases q : 0 < A (18 * o + 6 * n + 3)
    · rw [if_pos q, tc.2 k hk]; exact ⟨fun z => ⟨q, z⟩, fun z => z.2⟩
    · rw [if_neg q]; exact ⟨fun z => absurd z zw_tb_0, fun z => absurd z.1 q⟩
  rw [ec]
  constructor
  · rintro ((z | ⟨j, j0, j1, z⟩) | ((z | z) | z))
    · exact Or.inl z
    · exact Or.inr ⟨j, j0, by omega, z⟩
    · exact Or.inr ⟨n, n0, by omega, Or.inl z⟩
    · exact Or.inr ⟨n, n0, by omega, Or.inr (Or.inl z)⟩
    · exact Or.inr ⟨n, n0, by omega, Or.inr (Or.inr z)⟩
  · rintro (z | ⟨j, j0, j1, z⟩)
    · exact Or.inl (Or.inl z)
    · by_cases q : j = n
      · rw [q] at z
        rcases z with z | z | z
        · exact Or.inr (Or.inl (Or.inl z))
        · exact Or.inr (Or.inl (Or.inr z))
        · exact Or.inr (Or.inr z)
      · exact Or.inl (Or.inr ⟨j, j0, by omega, z⟩)
/-! how many values a store has; numbers of states -/
def zr_bt (x : Int) : Int := if x < 3 then zq_shl 1 x else if x = 4 then 16 else 32
def zr_sz (N x : Int) : Int := if x = 3 then (if zq_and N 8 = 0 then 1 else 2) else (if zq_and N (zr_bt x) = 0 then 1 else 4)
theorem zr_sz_b (N x : Int) : 1 ≤ zr_sz N x ∧ zr_sz N x ≤ 4 ∧ zr_sz N x ≤ zn_v x ∧ (zr_sz N x = 1 ∨ zr_sz N x = zn_v x) := by
  have v := zn_v_b x
  unfold zr_sz
  by_cases c : x = 3
  · rw [if_pos c, v.2.2.2 c]; split <;> omega
  · rw [if_neg c, v.2.2.1 c]; split <;> omega
def zr_m (N : Int) : Nat → Int
  | 0 => 1
  | n + 1 => zr_m N n * zr_sz N n
def zr_l (N q : Int) : Nat → Int
  | 0 => q
  | n + 1 => zr_l N q n / zr_sz N n
def zr_d (N q x : Int) : Int := zr_l N q x.toNat % zr_sz N x
theorem zr_m_b (N : Int) : ∀ n : Nat, 1 ≤ zr_m N n ∧ zr_m N n ≤ 4 ^ n := by
  intro n
  induction n with
  | zero => exact ⟨Int.le_refl _, Int.le_refl _⟩
  | succ n ih =>
    have b := zr_sz_b N n
    show 1 ≤ zr_m N n * zr_sz N n ∧ zr_m N n * zr_sz N n ≤ 4 ^ (n + 1)
    rw [Int.pow_succ]
    have h : zr_sz N n = 1 ∨ zr_sz N n = 2 ∨ zr_sz N n = 3 ∨ zr_sz N n = 4 := by omega
    rcases h with h | h | h | h <;> rw [h] <;> omega
theorem zr_m_9 {N : Int} {n : Nat} (h : n ≤ 9) : 1 ≤ zr_m N n ∧ zr_m N n ≤ 262144 := by
  have b := zr_m_b N n
  have c : n = 0 ∨ n = 1 ∨ n = 2 ∨ n = 3 ∨ n = 4 ∨ n = 5 ∨ n = 6 ∨ n = 7 ∨ n = 8 ∨ n = 9 := by omega
  refine ⟨b.1, Int.le_trans b.2 ?_⟩
  rcases c with c | c | c | c | c | c | c | c | c | c <;> rw [c] <;> decide
theorem zr_d_b (N q x : Int) : 0 ≤ zr_d N q x ∧ zr_d N q x < zr_sz N x := by
  have b := zr_sz_b N x
  unfold zr_d
  have h : zr_sz N x = 1 ∨ zr_sz N x = 2 ∨ zr_sz N x = 3 ∨ zr_sz N x = 4 := by omega
  rcases h with h | h | h | h <;> rw [h] <;> omega
/-- every row of digits has a number -/
def zr_q (N : Int) (s : Int → Int) : Nat → Int → Int
  | 0, _ => 0
  | r + 1, x => s x + zr_sz N x * zr_q N s r (x + 1)
def zr_pp (N : Int) : Nat → Int → Int
  | 0, _ => 1
  | r + 1, x => zr_sz N x * zr_pp N r (x + 1)
theorem zr_q_b {N : Int} {s : Int → Int} : ∀ (r : Nat) (x : Int), (∀ y, x ≤ y → y < x + r → 0 ≤ s y ∧ s y < zr_sz N y) → 0 ≤ zr_q N s r x ∧ zr_q N s r x < zr_pp N r x := by
  intro r
  induction r with
  | zero => intro x _; exact ⟨Int.le_refl _, show (0 : Int) < 1 by decide⟩
  | succ r ih =>
    intro x h
    have i := ih (x + 1) (fun y y0 y1 => h y (by omega) (by omega))
    have z := h x (by omega) (by omega)
    have b := zr_sz_b N x
    show 0 ≤ s x + zr_sz N x * zr_q N s r (x + 1) ∧ s x + zr_sz N x * zr_q N s r (x + 1) < zr_sz N x * zr_pp N r (x + 1)
    have c : zr_sz N x = 1 ∨ zr_sz N x = 2 ∨ zr_sz N x = 3 ∨ zr_sz N x = 4 := by omega
    rcases c with c | c | c | c <;> rw [c] at z ⊢ <;> omega
theorem zr_m_pp (N : Int) : ∀ (r x : Nat), zr_m N (x + r) = zr_m N x * zr_pp N r x := by
  intro r
  induction r with
  | zero => intro x; exact (Int.mul_one _).symm
  | succ r ih =>
    intro x
    rw [show x + (r + 1) = (x + 1) + r by omega, ih (x + 1)]
    show zr_m N x * zr_sz N x * zr_pp N r ((x + 1 : Nat) : Int) = zr_m N x * (zr_sz N x * zr_pp N r ((x : Int) + 1))
    rw [Int.mul_assoc]
    rfl
theorem zr_div {a b c : Int} (h : 0 ≤ a) (h2 : a < b) (hb : b = 1 ∨ b = 2 ∨ b = 3 ∨ b = 4) : (a + b * c) / b = c ∧ (a + b * c) % b = a := by
  rcases hb with rfl | rfl | rfl | rfl <;> omega
theorem zr_num (N : Int) (s : Int → Int) (hs : ∀ x, 0 ≤ x → x ≤ 8 → 0 ≤ s x ∧ s x < zr_sz N x) : ∃ q, 0 ≤ q ∧ q < zr_m N 9 ∧ ∀ x, 0 ≤ x → x ≤ 8 → zr_d N q x = s x := by
  have b := zr_q_b (N := N) (s := s) 9 0 (fun y y0 y1 => hs y y0 (by omega))
  have m := zr_m_pp N 9 0
  have m : zr_m N 9 = 1 * zr_pp N 9 0 := m
  have l : ∀ x : Nat, x ≤ 9 → zr_l N (zr_q N s 9 0) x = zr_q N s (9 - x) x := by
    intro x
    induction x with
    | zero => intro _; rfl
    | succ x ih =>
      intro hx
      have z := hs x (by omega) (by omega)
      have sb := zr_sz_b N x
      show zr_l N (zr_q N s 9 0) x / zr_sz N x = _
      rw [ih (by omega), show 9 - x = (9 - (x + 1)) + 1 by omega]
      show (s x + zr_sz N x * zr_q N s (9 - (x + 1)) ((x : Int) + 1)) / zr_sz N x = zr_q N s (9 - (x + 1)) ((x + 1 : Nat) : Int)
      rw [(zr_div z.1 z.2 (by omega)).1]
      rfl
  refine ⟨zr_q N s 9 0, b.1, by omega, fun x x0 x8 => ?_⟩
  have z := hs x x0 x8
  have sb := zr_sz_b N x
  unfold zr_d
  rw [l x.toNat (by omega), show 9 - x.toNat = (8 - x.toNat) + 1 by omega]
  show (s ((x.toNat : Nat) : Int) + zr_sz N ((x.toNat : Nat) : Int) * _) % zr_sz N x = s x
  rw [show ((x.toNat : Nat) : Int) = x by omega]
  exact (zr_div z.1 z.2 (by omega)).2
/-! the states that the reference goes through -/
def zr_s (N i q : Int) : Int → Int := fun x => if x = 9 then i else zr_d N q x
def zr_ni (N : Int) : Int := if zq_and N 64 = 0 then 1 else 4
theorem zr_s_st {N i q : Int} (hi : 0 ≤ i ∧ i < zr_ni N) : zn_st (zr_s N i q) := fun x x0 x9 => by
  have v := zn_v_b x
  show 0 ≤ (if x = 9 then i else zr_d N q x) ∧ (if x = 9 then i else zr_d N q x) < zn_v x
  by_cases c : x = 9
  · rw [if_pos c]
    have n : zr_ni N ≤ 4 := by unfold zr_ni; split <;> omega
    omega
  · rw [if_neg c]
    have d := zr_d_b N q x
    have b := zr_sz_b N x
    omega
theorem zr_s_x {N i q x : Int} (h : x ≤ 8) : zr_s N i q x = zr_d N q x := if_neg (by omega)
theorem zr_s_9 {N i q : Int} : zr_s N i q 9 = i := if_pos rfl
/-- every state whose unnamed stores are 0 is gone through -/
theorem zr_all (N : Int) {s : Int → Int} (hs : zn_st s) (h0 : ∀ x, 0 ≤ x → x ≤ 8 → zr_sz N x = 1 → s x = 0) (h9 : zr_ni N = 1 → s 9 = 0) : ∃ i q, (0 ≤ i ∧ i < zr_ni N) ∧ (0 ≤ q ∧ q < zr_m N 9) ∧ ∀ x, 0 ≤ x → x ≤ 9 → zr_s N i q x = s x := by
  obtain ⟨q, q0, q1, hq⟩ := zr_num N s (fun x x0 x8 => by
    have z := hs x x0 (by omega)
    have b := zr_sz_b N x
    rcases b.2.2.2 with c | c
    · have := h0 x x0 x8 c; omega
    · omega)
  have z := hs 9 (by decide) (by decide)
  have v := zn_v_b 9
  refine ⟨s 9, q, ?_, ⟨q0, q1⟩, fun x x0 x9 => ?_⟩
  · unfold zr_ni at h9 ⊢
    by_cases c : zq_and N 64 = 0
    · rw [if_pos c] at h9 ⊢; have := h9 rfl; omega
    · rw [if_neg c]; omega
  · by_cases c : x = 9
    · rw [c]; exact zr_s_9
    · rw [zr_s_x (by omega)]; exact hq x x0 (by omega)
/-! what is not named is neither read nor written -/
def zr_c (A : Int → Int) (o g d n N : Int) : Prop := (∀ y, 0 ≤ y → y ≤ 8 → zr_sz N y = 1 → ¬ zn_rd A o g d n (zn_z y) ∧ ¬ zn_wr A o n (zn_z y)) ∧ (zr_ni N = 1 → ¬ zn_rI A o n)
def zr_bk (y : Int) : Int := if y < 5 then y else 5
theorem zr_tb1 {N : Int} {k : Nat} (hk : k < 10) (hN : 0 ≤ N ∧ N ≤ 127) {b : Int} (hb : b = ((2 ^ k : Nat) : Int)) (b2 : b < 1024) : zq_and N b ≠ 0 ↔ zw_tb N k := by
  have b0 : 0 ≤ b := by rw [hb]; exact Int.natCast_nonneg _
  rw [zw_tb_and (by omega) ⟨b0, b2⟩]
  constructor
  · rintro ⟨i, i1, i2, i3⟩
    rw [(zw_tb_2 k hb).mp i3] at i2
    exact i2
  · intro h
    exact ⟨k, hk, h, (zw_tb_2 k hb).mpr rfl⟩
theorem zr_sz_t {N y : Int} (hN : 0 ≤ N ∧ N ≤ 127) (h : 0 ≤ y ∧ y ≤ 8) : zr_sz N y = 1 ↔ ¬ zw_tb N (zr_bk y).toNat := by
  have v := zn_v_b y
  have key : ∀ (k : Nat) (b : Int), k < 10 → b = ((2 ^ k : Nat) : Int) → b < 1024 → (zr_bk y).toNat = k → zr_sz N y = (if zq_and N b = 0 then 1 else zn_v y) → (zr_sz N y = 1 ↔ ¬ zw_tb N (zr_bk y).toNat) := fun k b hk hb b2 e1 e2 => by
    rw [e1, e2, ← zr_tb1 hk hN hb b2]
    by_cases c : zq_and N b = 0
    · rw [if_pos c]; exact ⟨fun _ q => q c, fun _ => rfl⟩
    · rw [if_neg c]; exact ⟨fun q => by omega, fun q => absurd c q⟩
  have hy : y = 0 ∨ y = 1 ∨ y = 2 ∨ y = 3 ∨ y = 4 ∨ y = 5 ∨ y = 6 ∨ y = 7 ∨ y = 8 := by omega
  rcases hy with rfl | rfl | rfl | rfl | rfl | rfl | rfl | rfl | rfl
  · exact key 0 1 (by decide) rfl (by decide) rfl rfl
  · exact key 1 2 (by decide) rfl (by decide) rfl rfl
  · exact key 2 4 (by decide) rfl (by decide) rfl rfl
  · exact key 3 8 (by decide) rfl (by decide) rfl rfl
  · exact key 4 16 (by decide) rfl (by decide) rfl rfl
  · exact key 5 32 (by decide) rfl (by decide) rfl rfl
  · exact key 5 32 (by decide) rfl (by decide) rfl rfl
  · exact key 5 32 (by decide) rfl (by decide) rfl rfl
  · exact key 5 32 (by decide) rfl (by decide) rfl rfl
theorem zr_ni_t {N : Int} (hN : 0 ≤ N ∧ N ≤ 127) : zr_ni N = 1 ↔ ¬ zw_tb N 6 := by
  rw [← zr_tb1 (k := 6) (by decide) hN (b := 64) rfl (by decide)]
  unfold zr_ni
  by_cases c : zq_and N 64 = 0
  · rw [if_pos c]; exact ⟨fun _ q => q c, fun _ => rfl⟩
  · rw [if_neg c]; exact ⟨fun q => by omega, fun q => absurd c q⟩
/-- cells and bits -/
theorem zr_rc_ob {w y : Int} (h : 0 ≤ y ∧ y ≤ 8) (hw : 0 ≤ w) (k : zn_rc w (zn_z y)) : zr_ob w (zr_bk y) := by
  have z := zn_z_b h
  have e : zr_bk y = if y < 5 then y else 5 := rfl
  unfold zn_rc at k
  unfold zr_ob
  rw [e]
  by_cases c : y < 5
  · rw [if_pos c]; omega
  · rw [if_neg c]; omega
theorem zr_wc_ob {t y : Int} (h : 0 ≤ y ∧ y ≤ 8) (ht : 0 ≤ t ∧ t ≤ 9) (k : zn_wc t (zn_z y) ∨ zn_tc t (zn_z y)) : zr_ob t (zr_bk y) := by
  have z := zn_z_b h
  have e : zr_bk y = if y < 5 then y else 5 := rfl
  unfold zn_wc zn_tc at k
  unfold zr_ob
  rw [e]
  by_cases c : y < 5
  · rw [if_pos c]; omega
  · rw [if_neg c]; omega
theorem zr_c_mk {A : Int → Int} {o g d n N : Int} (hg : zn_g A o g d n) (g0 : 0 ≤ g) (hN0 : 0 ≤ N ∧ N ≤ 127) (hN : ∀ k : Nat, k < 7 → zr_me A o g d n k → zw_tb N k) : zr_c A o g d n N := by
  have bk : ∀ y, 0 ≤ y → y ≤ 8 → 0 ≤ zr_bk y ∧ zr_bk y ≤ 5 := fun y y0 y8 => by unfold zr_bk; split <;> omega
  have use : ∀ y, 0 ≤ y → y ≤ 8 → zr_sz N y = 1 → ¬ zr_me A o g d n (zr_bk y) := fun y y0 y8 h q => by
    have b := bk y y0 y8
    have z := hN (zr_bk y).toNat (by omega)
    rw [show (((zr_bk y).toNat : Nat) : Int) = zr_bk y by omega] at z
    exact (zr_sz_t hN0 ⟨y0, y8⟩).mp h (z q)
  refine ⟨fun y y0 y8 h => ⟨fun q => use y y0 y8 h ?_, fun q => use y y0 y8 h ?_⟩, fun h q => ?_⟩
  · rcases q with ⟨q1, q2⟩ | ⟨j, j0, j1, q⟩
    · have hd := hg.1 q1
      have z := zr_rc_ob ⟨y0, y8⟩ hd.1 q2
      refine Or.inl ⟨by omega, ?_⟩
      unfold zr_ob at z
      omega
    · have rr := hg.2 j j0 j1
      refine Or.inr ⟨j, j0, j1, ?_⟩
      rcases q with q | q | ⟨q1, q2⟩
      · exact Or.inl (zr_wc_ob ⟨y0, y8⟩ ⟨rr.1.1, rr.1.2.1⟩ (Or.inr q))
      · exact Or.inr (Or.inl (zr_rc_ob ⟨y0, y8⟩ rr.2.1.1 q))
      · exact Or.inr (Or.inr ⟨q1, zr_rc_ob ⟨y0, y8⟩ rr.2.2.1 q2⟩)
  · obtain ⟨j, j0, j1, q⟩ := q
    have rr := hg.2 j j0 j1
    exact Or.inr ⟨j, j0, j1, Or.inl (zr_wc_ob ⟨y0, y8⟩ ⟨rr.1.1, rr.1.2.1⟩ (Or.inl q))⟩
  · obtain ⟨j, j0, j1, q⟩ := q
    refine (zr_ni_t hN0).mp h (hN 6 (by decide) (Or.inr ⟨j, j0, j1, ?_⟩))
    rcases q with q | q | ⟨q1, q2⟩
    · exact Or.inl (by unfold zr_ob; show _ ∨ _; omega)
    · exact Or.inr (Or.inl (by unfold zn_ri at q; unfold zr_ob; show _ ∨ _; omega))
    · exact Or.inr (Or.inr ⟨q1, by unfold zn_ri at q2; unfold zr_ob; show _ ∨ _; omega⟩)
theorem zr_same {A : Int → Int} {o g d n N : Int} {s t : Int → Int} (hg : zn_g A o g d n) (hc : zr_c A o g d n N) (hs : zn_st s) (ht : zn_st t) (h : ∀ y, 0 ≤ y → y ≤ 8 → zr_sz N y ≠ 1 → t y = s y) (h9 : zr_ni N ≠ 1 → t 9 = s 9) : ∀ y, 0 ≤ y → y ≤ 8 → (zr_sz N y ≠ 1 → zn_o A o g d n t y = zn_o A o g d n s y) ∧ (zr_sz N y = 1 → zn_o A o g d n t y = t y ∧ zn_o A o g d n s y = s y) := by
  have z := zn_o_u (u := fun y => zr_sz N y = 1) hg hs ht (fun y y0 y8 q => hc.1 y y0 y8 q) (fun q => hc.2 (Classical.byContradiction (fun k => q (h9 k)))) h
  exact fun y y0 y8 => z y y0 y8
/-- a state that the reference goes through, for any state -/
theorem zr_rep (N : Int) {s : Int → Int} (hs : zn_st s) : ∃ i q, (0 ≤ i ∧ i < zr_ni N) ∧ (0 ≤ q ∧ q < zr_m N 9) ∧ (∀ y, 0 ≤ y → y ≤ 8 → zr_sz N y ≠ 1 → zr_s N i q y = s y) ∧ (zr_ni N ≠ 1 → zr_s N i q 9 = s 9) := by
  have ht : zn_st (fun x => if (x ≤ 8 ∧ zr_sz N x = 1) ∨ (x = 9 ∧ zr_ni N = 1) then 0 else s x) := fun x x0 x9 => by
    have v := zn_v_b x
    show 0 ≤ (if _ then (0 : Int) else s x) ∧ (if _ then (0 : Int) else s x) < zn_v x
    by_cases c : (x ≤ 8 ∧ zr_sz N x = 1) ∨ (x = 9 ∧ zr_ni N = 1)
    · rw [if_pos c]; omega
    · rw [if_neg c]; exact hs x x0 x9
  obtain ⟨i, q, hi, hq, e⟩ := zr_all N ht (fun x x0 x8 h => if_pos (Or.inl ⟨x8, h⟩)) (fun h => if_pos (Or.inr ⟨rfl, h⟩))
  refine ⟨i, q, hi, hq, fun y y0 y8 h => ?_, fun h => ?_⟩
  · rw [e y y0 (by omega)]
    exact if_neg (fun q => q.elim (fun z => h z.2) (fun z => by omega))
  · rw [e 9 (by decide) (by decide)]
    exact if_neg (fun q => q.elim (fun z => by omega) (fun z => h z.2))
/-- a store's being read shows in a state that is gone through -/
def zr_wt (A : Int → Int) (o g d n x N i q : Int) : Prop := ∃ v, zr_d N q x < v ∧ v < zr_sz N x ∧ zn_un A o g d n x (zr_s N i q) (zw_up (zr_s N i q) x v) (zr_d N q x) v
def zr_P (A : Int → Int) (o g d n x N : Int) : Prop := ∃ i q, (0 ≤ i ∧ i < zr_ni N) ∧ (0 ≤ q ∧ q < zr_m N 9) ∧ zr_wt A o g d n x N i q
theorem zr_up_self {s : Int → Int} {x : Int} : zw_up s x (s x) = s := funext (fun j => by
  show (if j = x then s x else s j) = s j
  by_cases c : j = x
  · rw [if_pos c, c]
  · rw [if_neg c])
theorem zr_P_iff {A : Int → Int} {o g d n x N : Int} (hg : zn_g A o g d n) (hc : zr_c A o g d n N) (hx : 0 ≤ x ∧ x ≤ 8) (h1 : zr_sz N x ≠ 1) : zr_P A o g d n x N ↔ zn_P A o g d n x := by
  have sb := zr_sz_b N x
  have sv : zr_sz N x = zn_v x := sb.2.2.2.resolve_left h1
  constructor
  · rintro ⟨i, q, hi, hq, v, v0, v1, h⟩
    have d := zr_d_b N q x
    have st := zr_s_st (N := N) (i := i) (q := q) hi
    refine ⟨zr_s N i q, st, zr_d N q x, v, d.1, v0, by omega, ?_⟩
    have e : zw_up (zr_s N i q) x (zr_d N q x) = zr_s N i q := by
      have z := zr_up_self (s := zr_s N i q) (x := x)
      rw [zr_s_x hx.2] at z
      exact z
    rw [e]
    exact h
  · rintro ⟨s, hs, u, v, u0, uv, vv, h⟩
    have su := zn_st_up (x := x) hs ⟨u0, by omega⟩ (v := u)
    have sv2 := zn_st_up (x := x) hs ⟨by omega, vv⟩ (v := v)
    obtain ⟨i, q, hi, hq, e, e9⟩ := zr_rep N su
    have ex : zr_d N q x = u := by
      have z := e x hx.1 hx.2 h1
      rw [zr_s_x hx.2] at z
      rw [z]
      exact if_pos rfl
    have st := zr_s_st (N := N) (i := i) (q := q) hi
    have st2 := zn_st_up (x := x) st ⟨by omega, vv⟩ (v := v)
    have a := zr_same hg hc su st e e9
    have b := zr_same hg hc sv2 st2 (fun y y0 y8 k => by
      show (if y = x then v else zr_s N i q y) = if y = x then v else s y
      by_cases c : y = x
      · rw [if_pos c, if_pos c]
      · rw [if_neg c, if_neg c, e y y0 y8 k]
        exact if_neg c) (fun k => by
      show (if (9 : Int) = x then v else zr_s N i q 9) = if (9 : Int) = x then v else s 9
      rw [if_neg (by omega), if_neg (by omega), e9 k]
      exact if_neg (by omega))
    refine ⟨i, q, hi, hq, v, by omega, by omega, ?_⟩
    rw [ex]
    rcases h with ⟨y, y0, y8, yx, h⟩ | ⟨h2, h3⟩
    · refine Or.inl ⟨y, y0, y8, yx, ?_⟩
      by_cases k : zr_sz N y = 1
      · exfalso
        have z1 := ((a y y0 y8).2 k).2
        have z2 := ((b y y0 y8).2 k).2
        rw [z1, z2] at h
        exact h (by show (if y = x then u else s y) = if y = x then v else s y; rw [if_neg yx, if_neg yx])
      · rw [(a y y0 y8).1 k, (b y y0 y8).1 k]; exact h
    · have z1 := (a x hx.1 hx.2).1 h1
      have z2 := (b x hx.1 hx.2).1 h1
      exact Or.inr ⟨by rw [z1, z2]; exact h2, by rw [z1, z2]; exact h3⟩
theorem zr_P_1 {A : Int → Int} {o g d n x N : Int} (hg : zn_g A o g d n) (hc : zr_c A o g d n N) (hx : 0 ≤ x ∧ x ≤ 8) (h1 : zr_sz N x = 1) : ¬ zn_P A o g d n x := zn_P_n hg hx (hc.1 x hx.1 hx.2 h1).1
theorem zr_cb {A : Int → Int} {o g d n N : Int} (hg : zn_g A o g d n) (hc : zr_c A o g d n N) {s : Int → Int} (hs : zn_st s) : ∃ i q, (0 ≤ i ∧ i < zr_ni N) ∧ (0 ≤ q ∧ q < zr_m N 9) ∧ ∀ k : Nat, zn_cb A o g d n s k → zn_cb A o g d n (zr_s N i q) k := by
  obtain ⟨i, q, hi, hq, e, e9⟩ := zr_rep N hs
  have a := zr_same hg hc hs (zr_s_st (N := N) (i := i) (q := q) hi) e e9
  refine ⟨i, q, hi, hq, fun k ⟨x, x0, x8, bx, h⟩ => ⟨x, x0, x8, bx, ?_⟩⟩
  by_cases c : zr_sz N x = 1
  · exact absurd ((a x x0 x8).2 c).2 h
  · rw [(a x x0 x8).1 c, e x x0 x8 c]; exact h
/-- done on a row that is s -/
theorem zr_done {A : Int → Int} {o g d n i : Int} {s μ ν : Int → Int} (hg : zn_g A o g d n) (hs : zn_st s) (h9 : i = s 9) (hm : ∀ y, 0 ≤ y → y ≤ 8 → μ y = s y) (h : zn_row ν = zw_do (zn_F i) 3 A o g d n (zn_row μ)) : ∀ y, 0 ≤ y → y ≤ 8 → ν y = zn_o A o g d n s y := fun y y0 y8 => by
  have b := zn_z_b ⟨y0, y8⟩
  have z : zn_row ν (zn_z y) = ν y := zn_row_z ⟨y0, y8⟩
  rw [← z, h, h9]
  exact zw_do_c (fun _ _ _ => rfl) (fun c c0 _ => zn_row_c hm c0) (zn_ok_st hs) hg.1 (fun j j0 j1 => ⟨⟨rfl, rfl, rfl, rfl, rfl, rfl⟩, hg.2 j j0 j1⟩) _ b.1 b.2.1
theorem zn_g_r {σ : zq_S} {o : Int} (hσ : zx_T σ) (hA : zx_A σ o) (hd : σ 3 o = 0 ∨ σ 4 o ≠ 3) : zn_g (σ 6) o (σ 3 o) (σ 4 o) (σ 5 o) := by
  have z4 := zx_ga4 hσ o
  refine ⟨fun q => by omega, fun j j0 j1 => ?_⟩
  have a0 := zx_ac0 hσ (18 * o + 6 * j) (by omega)
  have a1 := zx_ac1 hσ (18 * o + 6 * j + 1) (by omega)
  have a4 := zx_ac4 hσ (18 * o + 6 * j + 4) (by omega)
  have za := hA j j0 j1
  exact ⟨by omega, by omega, by omega⟩
theorem zr_sz_3 {N x : Int} (h : x = 3) : zr_sz N x = if zq_and N 8 = 0 then 1 else 2 := by unfold zr_sz; rw [if_pos h]
theorem zr_sz_o {N x b : Int} (h : x ≠ 3) (hb : b = zr_bt x) : zr_sz N x = if zq_and N b = 0 then 1 else 4 := by unfold zr_sz; rw [if_neg h, hb]
theorem zr_irb {A : Int → Int} {o g d n x u v : Int} {s t f h : Int → Int} (k : ∀ y, 0 ≤ y → y ≤ 8 → f y = zn_o A o g d n s y) (l : ∀ y, 0 ≤ y → y ≤ 8 → h y = zn_o A o g d n t y) (hx : 0 ≤ x ∧ x ≤ 8) : ((∃ y, 0 ≤ y ∧ y ≤ 8 ∧ y ≠ x ∧ f y ≠ h y) ∨ (f x ≠ h x ∧ (f x ≠ u ∨ h x ≠ v))) ↔ zn_un A o g d n x s t u v := by
  unfold zn_un
  rw [← k x hx.1 hx.2, ← l x hx.1 hx.2]
  constructor
  · rintro (⟨y, y0, y8, yx, q⟩ | q)
    · exact Or.inl ⟨y, y0, y8, yx, by rw [← k y y0 y8, ← l y y0 y8]; exact q⟩
    · exact Or.inr q
  · rintro (⟨y, y0, y8, yx, q⟩ | q)
    · exact Or.inl ⟨y, y0, y8, yx, by rw [k y y0 y8, l y y0 y8]; exact q⟩
    · exact Or.inr q
theorem zr_or0 {x : Int} (h : 0 ≤ x ∧ x ≤ 127) : zq_or x 0 = x := by
  obtain ⟨m, rfl⟩ := Int.eq_ofNat_of_zero_le h.1
  have z := zt_orN (m := m) (n := 0) (by omega) (by decide)
  rw [Nat.or_zero] at z
  exact z
theorem zn_bs_b {P : Int → Prop} : ∀ n : Nat, n ≤ 9 → 0 ≤ zn_bs P n ∧ zn_bs P n ≤ 63 := by
  intro n
  induction n with
  | zero => intro _; exact ⟨Int.le_refl _, show (0 : Int) ≤ 63 by decide⟩
  | succ n ih =>
    intro hn
    have i := ih (by omega)
    have b := (zn_bit_b (x := n) ⟨by omega, by omega⟩).1
    by_cases c : zq_and (zn_bs P n) (zn_bit n) = 0 ∧ P n
    · rw [zn_bs_y c]; exact zn_or63 i (by omega)
    · rw [zn_bs_n c]; exact i
theorem zn_bsI_b {P : Int → Prop} {r k : Int} (h : zn_bsI P r k) (k9 : k ≤ 9) : 0 ≤ r ∧ r ≤ 63 := by
  have z := zn_bs_b (P := P) k.toNat (by omega)
  have h : r = zn_bs P k.toNat := h
  rw [h]
  exact z
theorem zr_ni_b (N : Int) : 1 ≤ zr_ni N ∧ zr_ni N ≤ 4 := by unfold zr_ni; split <;> omega
/-! bits found -/
def zr_S (A : Int → Int) (o g d n b : Int) : Prop := ∀ k : Nat, zw_tb b k → ∃ s, zn_st s ∧ zn_cb A o g d n s k
def zr_D (A : Int → Int) (o g d n N i m b : Int) : Prop := ∀ q, 0 ≤ q → q < m → ∀ k : Nat, zn_cb A o g d n (zr_s N i q) k → zw_tb b k
def zr_C (A : Int → Int) (o g d n N m b : Int) : Prop := ∀ i, 0 ≤ i → i < m → zr_D A o g d n N i (zr_m N 9) b
def zr_E (A : Int → Int) (o g d n : Int) (s : Int → Int) (m b : Int) : Prop := ∀ k : Nat, zn_cbn A o g d n s m k → zw_tb b k
section ZRW
variable {A : Int → Int} {o g d n N i m b c x : Int} {s : Int → Int}
theorem zr_tbm {k : Nat} (hb : 0 ≤ b ∧ b ≤ 63) (hc : 0 ≤ c ∧ c ≤ 63) (h : zw_tb b k) : zw_tb (zq_or b c) k := (zw_tb_or (by omega) (by omega)).mpr (Or.inl h)
theorem zr_D_m (hb : 0 ≤ b ∧ b ≤ 63) (hc : 0 ≤ c ∧ c ≤ 63) (h : zr_D A o g d n N i m b) : zr_D A o g d n N i m (zq_or b c) := fun q q0 q1 k z => zr_tbm hb hc (h q q0 q1 k z)
theorem zr_C_m (hb : 0 ≤ b ∧ b ≤ 63) (hc : 0 ≤ c ∧ c ≤ 63) (h : zr_C A o g d n N m b) : zr_C A o g d n N m (zq_or b c) := fun i i0 i1 => zr_D_m hb hc (h i i0 i1)
theorem zr_S_y (hx : 0 ≤ x ∧ x ≤ 8) (hb : 0 ≤ b ∧ b ≤ 63) (hc : c = zn_bit x) (hs : zn_st s) (q : zn_o A o g d n s x ≠ s x) (h : zr_S A o g d n b) : zr_S A o g d n (zq_or b c) := fun k z => by
  have bb := zn_bit_b hx
  rcases (zw_tb_or (by omega) (by omega)).mp z with z | z
  · exact h k z
  · rw [hc, bb.2 k] at z
    exact ⟨s, hs, x, hx.1, hx.2, z, q⟩
theorem zr_E_y (hx : 0 ≤ x ∧ x ≤ 8) (hb : 0 ≤ b ∧ b ≤ 63) (hc : c = zn_bit x) (h : zr_E A o g d n s x b) : zr_E A o g d n s (x + 1) (zq_or b c) := fun k z => by
  have bb := zn_bit_b hx
  rw [zw_tb_or (by omega) (by omega)]
  rcases (zn_cbn_s hx.1).mp z with z | z
  · exact Or.inl (h k z)
  · refine Or.inr ?_
    rw [hc, bb.2 k]
    exact z.1
theorem zr_E_n (hx : 0 ≤ x) (q : zn_o A o g d n s x = s x) (h : zr_E A o g d n s x b) : zr_E A o g d n s (x + 1) b := fun k z => ((zn_cbn_s hx).mp z).elim (h k) (fun z => absurd q z.2)
theorem zr_E_0 : zr_E A o g d n s 0 b := fun k ⟨y, y0, y1, _⟩ => absurd y1 (by omega)
theorem zr_D_s (h : zr_D A o g d n N i m b) (e : zr_E A o g d n (zr_s N i m) 9 b) : zr_D A o g d n N i (m + 1) b := fun q q0 q1 k z => by
  by_cases c : q = m
  · rw [c] at z; exact e k (zn_cb_9.mpr z)
  · exact h q q0 (by omega) k z
theorem zr_C_s (h : zr_C A o g d n N m b) (e : zr_D A o g d n N m (zr_m N 9) b) : zr_C A o g d n N (m + 1) b := fun i i0 i1 => by
  by_cases c : i = m
  · rw [c]; exact e
  · exact h i i0 (by omega)
theorem zr_Wm (hg : zn_g A o g d n) (hc : zr_c A o g d n N) (hb : 0 ≤ b ∧ b ≤ 63) (h : zr_S A o g d n b) (e : zr_C A o g d n N (zr_ni N) b) : zn_Wm A o g d n b := ⟨hb, fun k => ⟨h k, fun ⟨s, hs, z⟩ => by
  obtain ⟨i, q, hi, hq, e2⟩ := zr_cb hg hc hs
  exact e i hi.1 hi.2 q hq.1 hq.2 k (e2 k z)⟩⟩
end ZRW
/-! doing the same -/
def zr_L (A : Int → Int) (o g d n : Int) (B : Int → Int) (p h e m : Int) (s : Int → Int) : Prop := ∀ y, 0 ≤ y → y ≤ 8 → zn_o A o g d n s y = zn_o B p h e m s y
theorem zr_Lk {A : Int → Int} {o g d n : Int} {B : Int → Int} {p h e m N : Int} (hg : zn_g A o g d n) (hc : zr_c A o g d n N) (hg2 : zn_g B p h e m) (hc2 : zr_c B p h e m N) : (∀ i, 0 ≤ i → i < zr_ni N → ∀ q, 0 ≤ q → q < zr_m N 9 → zr_L A o g d n B p h e m (zr_s N i q)) ↔ zn_Lk A o g d n B p h e m := by
  constructor
  · intro k s hs y y0 y8
    obtain ⟨i, q, hi, hq, e1, e9⟩ := zr_rep N hs
    have st := zr_s_st (N := N) (i := i) (q := q) hi
    have a := zr_same hg hc hs st e1 e9 y y0 y8
    have b := zr_same hg2 hc2 hs st e1 e9 y y0 y8
    by_cases c : zr_sz N y = 1
    · rw [(a.2 c).2, (b.2 c).2]
    · rw [← a.1 c, ← b.1 c]; exact k i hi.1 hi.2 q hq.1 hq.2 y y0 y8
  · intro k i i0 i1 q _ _
    exact k _ (zr_s_st ⟨i0, i1⟩)

