/-! ===== the reference: ticks are there; two orders' looks as one ===== -/
def zx_TK (σ : zq_S) : Prop := ∀ o, 0 ≤ o → o < σ 0 3 → 1 ≤ σ 7 o
theorem zx_TK_fr {σ τ : zq_S} (h7 : ∀ i, τ 7 i = σ 7 i) (h3 : τ 0 3 = σ 0 3) (h : zx_TK σ) : zx_TK τ := fun o h0 h1 => by rw [h7]; exact h o h0 (by omega)
theorem zx_TK_old {σ τ : zq_S} (h3 : τ 0 3 = σ 0 3) (h7 : ∀ i, i < σ 0 3 → τ 7 i = σ 7 i) (h : zx_TK σ) : zx_TK τ := fun o h0 h1 => by rw [h7 o (by omega)]; exact h o h0 (by omega)
theorem zx_TK_le {σ τ : zq_S} {v : Int} (h : zx_TK σ) (e : τ = zq_up σ 0 3 v) (hv : v ≤ σ 0 3) : zx_TK τ := fun o h0 h1 => by
  have : τ 0 3 = v := by rw [e, zq_up_same]
  rw [e, zq_up_ne (by omega)]
  exact h o h0 (by omega)
theorem zx_TK_inc {σ τ : zq_S} (h : zx_TK σ) (h3 : τ 0 3 = σ 0 3 + 1) (h7 : ∀ i, τ 7 i = σ 7 i) (hn : 1 ≤ σ 7 (σ 0 3)) : zx_TK τ := fun o h0 h1 => by
  rw [h7]
  by_cases hc : o = σ 0 3
  · rw [hc]; exact hn
  · exact h o h0 (by omega)
theorem zx_TK_0 {σ : zq_S} (h : σ 0 3 = 0) : zx_TK σ := fun o h0 h1 => absurd h1 (by omega)
/-- how many bits a field of both has: F which fields, I of i, K of a register -/
def zx_mn (F I K f : Int) : Int := if zq_and (zq_shr F f) 1 = 0 then 0 else if f = 3 then I else K
def zx_rb (F I K : Int) : Int := (if zq_and F 8 = 0 then 0 else I) + zq_and (zq_shr F 0) 1 * K + zq_and (zq_shr F 1) 1 * K + zq_and (zq_shr F 2) 1 * K
theorem zx_bit (x : Int) : zq_and x 1 = 0 ∨ zq_and x 1 = 1 := by
  have := zq_and_mask x 1 1 2 (by decide) (by decide) (by decide)
  omega
theorem zx_mn_bit {F I K f : Int} (h3 : f ≠ 3) : zq_and (zq_shr F f) 1 * K = zx_mn F I K f := by
  unfold zx_mn
  rcases zx_bit (zq_shr F f) with h | h
  · rw [if_pos h, h]; omega
  · rw [if_neg (by omega), if_neg h3, h]; omega
theorem zx_fm_b (σ : zq_S) (o : Int) : 0 ≤ zx_fm σ o 4 ∧ zx_fm σ o 4 ≤ 15 := by
  have key : ∀ n : Nat, n ≤ 4 → 0 ≤ zx_fmN σ o n ∧ zx_fmN σ o n < 2 ^ n := by
    intro n
    induction n with
    | zero => intro _; exact ⟨Int.le_refl _, show (0 : Int) < 1 by decide⟩
    | succ n ih =>
      intro hn
      obtain ⟨h1, h2⟩ := ih (by omega)
      have hp : (2 : Int) ^ (n + 1) = 2 * 2 ^ n := by rw [Int.pow_succ]; omega
      have hsh := zx_shl_one (y := (n : Int)) 3 8 (by decide) (by decide) (by omega)
      have hsv : zq_shl 1 (n : Int) = 2 ^ n := by rw [hsh.1]; unfold zx_p2; simp
      simp only [zx_fmN]
      split
      · exact ⟨(zq_or_b (x := zx_fmN σ o n) (y := zq_shl 1 n) (n + 1) (2 ^ (n + 1)) (by omega) rfl ⟨h1, by omega⟩ ⟨by omega, by omega⟩).1, by have := (zq_or_b (x := zx_fmN σ o n) (y := zq_shl 1 n) (n + 1) (2 ^ (n + 1)) (by omega) rfl ⟨h1, by omega⟩ ⟨by omega, by omega⟩).2; omega⟩
      · exact ⟨(zq_or_b (x := zx_fmN σ o n) (y := 0) (n + 1) (2 ^ (n + 1)) (by omega) rfl ⟨h1, by omega⟩ ⟨by omega, by omega⟩).1, by have := (zq_or_b (x := zx_fmN σ o n) (y := 0) (n + 1) (2 ^ (n + 1)) (by omega) rfl ⟨h1, by omega⟩ ⟨by omega, by omega⟩).2; omega⟩
  have := key 4 (by omega)
  exact ⟨this.1, by have h : zx_fm σ o 4 < 2 ^ 4 := this.2; omega⟩
def zx_rsN (B F K : Int) : Nat → Int
  | 0 => B
  | n + 1 => zx_rsN B F K n + zq_and (zq_shr F n) 1 * K
def zx_rs (B F K n : Int) : Int := zx_rsN B F K n.toNat
theorem zx_rs_0 (B F K : Int) : zx_rs B F K 0 = B := rfl
theorem zx_rs_s (B F K : Int) {n : Int} (h : 0 ≤ n) : zx_rs B F K (n + 1) = zx_rs B F K n + zq_and (zq_shr F n) 1 * K := by
  obtain ⟨k, rfl⟩ := Int.eq_ofNat_of_zero_le h
  rfl
theorem zx_rs_3 (F I K : Int) : zx_rs (if zq_and F 8 = 0 then 0 else I) F K 3 = zx_rb F I K := rfl
def zx_msN (F I K : Int) : Nat → Int
  | 0 => 0
  | n + 1 => zx_msN F I K n + zx_mn F I K n
def zx_ms (F I K n : Int) : Int := zx_msN F I K n.toNat
theorem zx_ms_0 (F I K : Int) : zx_ms F I K 0 = 0 := rfl
theorem zx_ms_s (F I K : Int) {n : Int} (h : 0 ≤ n) : zx_ms F I K (n + 1) = zx_ms F I K n + zx_mn F I K n := by
  obtain ⟨k, rfl⟩ := Int.eq_ofNat_of_zero_le h
  rfl
theorem zx_mn_b {F I K f : Int} (hI : 0 ≤ I ∧ I ≤ 8) (hK : 0 ≤ K ∧ K ≤ 3) : 0 ≤ zx_mn F I K f ∧ zx_mn F I K f ≤ 8 ∧ (f ≠ 3 → zx_mn F I K f ≤ 3) := by
  unfold zx_mn
  split
  · omega
  · split
    · omega
    · omega
theorem zx_ms_4 {F I K n : Int} (hI : 0 ≤ I ∧ I ≤ 8) (hK : 0 ≤ K ∧ K ≤ 3) (h0 : 0 ≤ n) (h : n ≤ 4) : zx_ms F I K n ≤ zx_ms F I K 4 ∧ 0 ≤ zx_ms F I K n := by
  have s0 := zx_ms_0 F I K
  have s1 := zx_ms_s F I K (n := 0) (by omega)
  have s2 := zx_ms_s F I K (n := 1) (by omega)
  have s3 := zx_ms_s F I K (n := 2) (by omega)
  have s4 := zx_ms_s F I K (n := 3) (by omega)
  have b0 := zx_mn_b (F := F) (f := 0) hI hK
  have b1 := zx_mn_b (F := F) (f := 1) hI hK
  have b2 := zx_mn_b (F := F) (f := 2) hI hK
  have b3 := zx_mn_b (F := F) (f := 3) hI hK
  rcases (show n = 0 ∨ n = 1 ∨ n = 2 ∨ n = 3 ∨ n = 4 by omega) with rfl | rfl | rfl | rfl | rfl
  all_goals (simp only [Int.reduceAdd, Int.zero_add] at s1 s2 s3 s4; omega)
theorem zx_and8 {F : Int} (h0 : 0 ≤ F) (h1 : F ≤ 15) : zq_and F 8 = 0 ↔ zq_and (zq_shr F 3) 1 = 0 := by
  rcases (show F = 0 ∨ F = 1 ∨ F = 2 ∨ F = 3 ∨ F = 4 ∨ F = 5 ∨ F = 6 ∨ F = 7 ∨ F = 8 ∨ F = 9 ∨ F = 10 ∨ F = 11 ∨ F = 12 ∨ F = 13 ∨ F = 14 ∨ F = 15 by omega) with rfl | rfl | rfl | rfl | rfl | rfl | rfl | rfl | rfl | rfl | rfl | rfl | rfl | rfl | rfl | rfl <;> decide
theorem zx_rb_ms {F I K : Int} (h0 : 0 ≤ F) (h1 : F ≤ 15) : zx_rb F I K = zx_ms F I K 4 := by
  have s0 := zx_ms_0 F I K
  have s1 := zx_ms_s F I K (n := 0) (by omega)
  have s2 := zx_ms_s F I K (n := 1) (by omega)
  have s3 := zx_ms_s F I K (n := 2) (by omega)
  have s4 := zx_ms_s F I K (n := 3) (by omega)
  simp only [Int.reduceAdd, Int.zero_add] at s1 s2 s3 s4
  have e0 := zx_mn_bit (F := F) (I := I) (K := K) (f := 0) (by omega)
  have e1 := zx_mn_bit (F := F) (I := I) (K := K) (f := 1) (by omega)
  have e2 := zx_mn_bit (F := F) (I := I) (K := K) (f := 2) (by omega)
  have e3 : (if zq_and F 8 = 0 then 0 else I) = zx_mn F I K 3 := by
    unfold zx_mn
    by_cases hc : zq_and F 8 = 0
    · rw [if_pos hc, if_pos ((zx_and8 h0 h1).mp hc)]
    · rw [if_neg hc, if_neg (fun q => hc ((zx_and8 h0 h1).mpr q)), if_pos rfl]
  unfold zx_rb
  rw [e0, e1, e2, e3]
  omega
theorem zx_cnt_put {σ τ : zq_S} {o f n v : Int} (h0 : 0 ≤ n) (e : τ = zq_up σ 2 (12 * o + n) v) : (v = 2 + f → zx_cnt τ o f (n + 1) = zx_cnt σ o f n + 1) ∧ (v ≠ 2 + f → zx_cnt τ o f (n + 1) = zx_cnt σ o f n) := by
  have h1 : zx_cnt τ o f n = zx_cnt σ o f n := zx_cnt_row (fun i h3 h4 => by rw [e, zq_up_ne (by omega)])
  have h2 := zx_cnt_s τ o f n h0
  have h3 : τ 2 (12 * o + n) = v := by rw [e, zq_up_same]
  rw [h3, h1] at h2
  exact ⟨h2.1, fun h => h2.2 h⟩
def zx_ty6 (i v : Int) : Prop := (i % 6 = 0 → 0 ≤ v ∧ v ≤ 9 ∧ v ≠ 3) ∧ (i % 6 = 1 → 0 ≤ v ∧ v ≤ 10) ∧ (i % 6 = 3 → 0 ≤ v ∧ v ≤ 6) ∧ (i % 6 = 4 → -1 ≤ v ∧ v ≤ 10) ∧ zq_in v
theorem zx_ty6_mv {σ : zq_S} (hT : zx_T σ) {i j : Int} (h : i % 6 = j % 6) : zx_ty6 j (σ 6 i) := by
  have := zx_ga6 hT i
  unfold zx_ty6
  rw [← h]
  exact this
def zx_C (σ : zq_S) (o F I K x9 x8 x11 : Int) : Prop := ∀ f, 0 ≤ f → f ≤ 3 → (f < x9 → zx_cnt σ o f x8 = zx_mn F I K f) ∧ (f = x9 → zx_cnt σ o f x8 = x11) ∧ (x9 < f → zx_cnt σ o f x8 = 0)
theorem zx_C_put {σ τ : zq_S} {o F I K x9 x8 x11 : Int} (h0 : 0 ≤ x8) (e : τ = zq_up σ 2 (12 * o + x8) (2 + x9)) (h : zx_C σ o F I K x9 x8 x11) : zx_C τ o F I K x9 (x8 + 1) (x11 + 1) := by
  intro f g0 g1
  have hp := zx_cnt_put (f := f) h0 e
  have hh := h f g0 g1
  refine ⟨fun q => ?_, fun q => ?_, fun q => ?_⟩
  · rw [hp.2 (by omega)]; exact hh.1 q
  · rw [hp.1 (by omega)]; have := hh.2.1 q; omega
  · rw [hp.2 (by omega)]; exact hh.2.2 q
theorem zx_C_next {σ : zq_S} {o F I K x9 x8 x11 : Int} (hx : x11 = zx_mn F I K x9) (h : zx_C σ o F I K x9 x8 x11) : zx_C σ o F I K (x9 + 1) x8 0 := by
  intro f g0 g1
  have hh := h f g0 g1
  refine ⟨fun q => ?_, fun q => hh.2.2 (by omega), fun q => hh.2.2 (by omega)⟩
  by_cases hc : f = x9
  · rw [hh.2.1 hc, hx, hc]
  · exact hh.1 (by omega)
theorem zx_C_bit {σ τ : zq_S} {o F I K x8 v : Int} (h0 : 0 ≤ x8) (e : τ = zq_up σ 2 (12 * o + x8) v) (hv : v ≤ 1) (h : zx_C σ o F I K 0 x8 0) : zx_C τ o F I K 0 (x8 + 1) 0 := by
  intro f g0 g1
  have hp := zx_cnt_put (f := f) h0 e
  have hh := h f g0 g1
  refine ⟨fun q => absurd q (by omega), fun q => ?_, fun q => ?_⟩
  · rw [hp.2 (by omega)]; exact hh.2.1 q
  · rw [hp.2 (by omega)]; exact hh.2.2 q
theorem zx_C_0 (σ : zq_S) (o F I K : Int) : zx_C σ o F I K 0 0 0 := fun f _ _ => ⟨fun q => absurd q (by omega), fun _ => zx_cnt_0 σ o f, fun _ => zx_cnt_0 σ o f⟩
theorem zx_C_B {σ : zq_S} {o F I K x8 x11 : Int} (hI : 0 ≤ I ∧ I ≤ 8) (hK : 0 ≤ K ∧ K ≤ 3) (hb : x8 = σ 0 2) (h : zx_C σ o F I K 4 x8 x11) : zx_B σ o := by
  have b0 := zx_mn_b (F := F) (f := 0) hI hK
  have b1 := zx_mn_b (F := F) (f := 1) hI hK
  have b2 := zx_mn_b (F := F) (f := 2) hI hK
  have b3 := zx_mn_b (F := F) (f := 3) hI hK
  unfold zx_B
  rw [← hb, (h 0 (by omega) (by omega)).1 (by omega), (h 1 (by omega) (by omega)).1 (by omega), (h 2 (by omega) (by omega)).1 (by omega), (h 3 (by omega) (by omega)).1 (by omega)]
  exact ⟨b0.2.2 (by omega), b1.2.2 (by omega), b2.2.2 (by omega), b3.2.1⟩
