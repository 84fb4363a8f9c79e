/-! ===== a step of the reference's stepper ===== -/
def zs_wr (L A : Int) (S : Nat → Prop) (w : Int) : Prop := (0 < L ∧ (∃ i : Nat, i < 10 ∧ zw_tb A i ∧ S i) ∧ w = L) ∨ (¬ (0 < L ∧ ∃ i : Nat, i < 10 ∧ zw_tb A i ∧ S i) ∧ w = 0)
noncomputable def zs_D (σ : zq_S) (o x ai : Int) : Int → Int := zw_do (zu_rf σ o x) (zx_p2 (σ 0 0) - 1) (σ 6) o (σ 3 o) (σ 4 o) (σ 5 o) (zw_up (zw_up (zw_up (σ 15) 270 (σ 7 o - 1)) 271 ai) 265 ((σ 15 265 + 1) % 64))
def zs_rr (σ τ : zq_S) (o x : Int) : Prop := ∃ w ai, zs_wr (σ 15 270) (σ 15 271) (zw_us (zu_rf σ o x) (σ 6) (18 * o) (σ 5 o) (σ 3 o) (σ 4 o)) w ∧ (0 ≤ ai ∧ ai ≤ 1023 ∧ ∀ i : Nat, zw_tb ai i ↔ zw_ts (zu_rf σ o x) (σ 6) (18 * o) (σ 5 o) i) ∧ (∀ i, i ≤ 265 → τ 15 i = zs_D σ o x ai i) ∧ τ 15 266 = zs_w (σ 15 266 + 1) ∧ τ 15 267 = zs_w (σ 15 267 + (σ 7 o + w + (if σ 15 (272 + σ 15 265) = τ 15 265 then 0 else σ 0 29))) ∧ τ 15 268 = zs_w (σ 15 268 + w) ∧ τ 15 269 = zs_w (σ 15 269 + (if σ 15 (272 + σ 15 265) = τ 15 265 then 0 else 1)) ∧ τ 15 270 = σ 7 o - 1 ∧ τ 15 271 = ai ∧ ∀ i, 272 ≤ i → τ 15 i = if i = 272 + σ 15 265 then τ 15 265 else σ 15 i
/-- no GUARD names i -/
def zs_gg (σ : zq_S) : Prop := ∀ o, 0 ≤ o → o < σ 0 3 → σ 3 o ≠ 0 → σ 4 o ≠ 3
theorem zs_gg_fr {σ τ : zq_S} (h0 : τ 0 3 = σ 0 3) (h3 : ∀ i, τ 3 i = σ 3 i) (h4 : ∀ i, τ 4 i = σ 4 i) (h : zs_gg σ) : zs_gg τ := fun o o0 o1 q => by
  rw [h4]
  exact h o o0 (by omega) (by rw [← h3]; exact q)
/-- the state is kept -/
def zs_kp (σ τ : zq_S) : Prop := (∀ j, τ 16 j = if 336 * σ 0 27 ≤ j ∧ j < 336 * σ 0 27 + 336 then σ 15 (j - 336 * σ 0 27) else σ 16 j) ∧ τ 0 27 = (σ 0 27 + 1) % 100 ∧ τ 0 26 = (if σ 0 26 < 100 then σ 0 26 + 1 else 100)
def zs_la (σ : zq_S) : Prop := 0 < σ 15 270 → 0 ≤ σ 15 271 ∧ σ 15 271 ≤ 1023
def zs_rx (σ : zq_S) : Int := σ 14 (σ 15 265)
def zs_rcan (σ : zq_S) : Prop := ∃ o, zt_ow σ (zs_rx σ) o ∧ 0 ≤ o
def zs_rno (σ : zq_S) : Prop := ∃ o, zt_ow σ (zs_rx σ) o ∧ o < 0
/-- what stays over a step -/
def zs_rf (σ τ : zq_S) : Prop := ∀ a i, a ≠ 15 → a ≠ 16 → a ≠ 18 → ¬ (a = 0 ∧ (i = 26 ∨ i = 27 ∨ i = 30)) → τ a i = σ a i
def zs_rd (k : Int) (σ τ : zq_S) : Prop := ∃ o, zt_ow σ (zs_rx σ) o ∧ 0 ≤ o ∧ zs_rr σ τ o (zs_rx σ) ∧ (k = 1 → zs_kp σ τ) ∧ (k = 0 → (∀ j, τ 16 j = σ 16 j) ∧ τ 0 26 = σ 0 26 ∧ τ 0 27 = σ 0 27)
def zs_Rr (_ : Int) (σ τ : zq_S) : Prop := zx_T σ ∧ zx_T τ ∧ zx_O σ ∧ zx_K σ ∧ zs_rf σ τ ∧ zs_rd 1 σ τ
/-- row j of a LOG is so -/
def zs_rlo (p : Int) (j : Int) (σ : zq_S) : Prop := zs_is (σ 40) (σ 15) (zx_p2 (σ 0 1)) (p + 3 * j)
def zs_Rl (p : Int) (j : Int) (σ τ : zq_S) : Prop := zx_T σ ∧ zx_T τ ∧ zx_O σ ∧ zx_K σ ∧ zs_rf σ τ ∧ zs_rlo p j σ ∧ zs_rd 0 σ τ
theorem zs_la_st {k : Int} {σ τ : zq_S} (h : zs_rd k σ τ) : zs_la τ := by
  obtain ⟨o, -, -, ⟨w, ai, -, h1, -, -, -, -, -, -, h2, -⟩, -⟩ := h
  intro _
  rw [h2]
  exact ⟨h1.1, h1.2.1⟩
theorem zs_up3 {σ s0 s1 s2 s3 : zq_S} {a b c : Int} (e1 : s1 = zq_up s0 15 270 a) (e2 : s2 = zq_up s1 15 271 b) (e3 : s3 = zq_up s2 15 265 c) (h0 : ∀ i, s0 15 i = σ 15 i) : s3 15 = zw_up (zw_up (zw_up (σ 15) 270 a) 271 b) 265 c := by
  funext i
  show _ = (if i = 265 then c else if i = 271 then b else if i = 270 then a else σ 15 i)
  by_cases c1 : i = 265
  · rw [if_pos c1, c1, e3, zq_up_same]
  · rw [if_neg c1, e3, zq_up_ne (by omega)]
    by_cases c2 : i = 271
    · rw [if_pos c2, c2, e2, zq_up_same]
    · rw [if_neg c2, e2, zq_up_ne (by omega)]
      by_cases c3 : i = 270
      · rw [if_pos c3, c3, e1, zq_up_same]
      · rw [if_neg c3, e1, zq_up_ne (by omega)]
        exact h0 i
theorem zs_up3_o {s : Int → Int} {a b c i : Int} (h1 : i ≠ 265) (h2 : i ≠ 271) (h3 : i ≠ 270) : zw_up (zw_up (zw_up s 270 a) 271 b) 265 c i = s i := by
  show (if i = 265 then c else if i = 271 then b else if i = 270 then a else s i) = s i
  rw [if_neg h1, if_neg h2, if_neg h3]
/-- what ahead of the ORDER and behind it the state holds -/
theorem zs_rr_mk {σ s1 s2 τ : zq_S} {o x w ai : Int} (hp : 0 ≤ σ 15 265 ∧ σ 15 265 ≤ 63) (hw : zs_wr (σ 15 270) (σ 15 271) (zw_us (zu_rf σ o x) (σ 6) (18 * o) (σ 5 o) (σ 3 o) (σ 4 o)) w) (ha : 0 ≤ ai ∧ ai ≤ 1023 ∧ ∀ i : Nat, zw_tb ai i ↔ zw_ts (zu_rf σ o x) (σ 6) (18 * o) (σ 5 o) i) (e1 : s1 15 = zw_up (zw_up (zw_up (σ 15) 270 (σ 7 o - 1)) 271 ai) 265 ((σ 15 265 + 1) % 64)) (e2 : ∀ i, s2 15 i = zw_do (zu_rf σ o x) (zx_p2 (σ 0 0) - 1) (σ 6) o (σ 3 o) (σ 4 o) (σ 5 o) (s1 15) i) (f2 : ∀ i, 265 < i → s2 15 i = s1 15 i) (g : ∀ i, i ≤ 265 → τ 15 i = s2 15 i) (g6 : τ 15 266 = zs_w (s2 15 266 + 1)) (g7 : τ 15 267 = zs_w (s2 15 267 + (σ 7 o + w + (if s2 15 (272 + σ 15 265) = s2 15 265 then 0 else σ 0 29)))) (g8 : τ 15 268 = zs_w (s2 15 268 + w)) (g9 : τ 15 269 = zs_w (s2 15 269 + (if s2 15 (272 + σ 15 265) = s2 15 265 then 0 else 1))) (g0 : τ 15 270 = s2 15 270) (g1 : τ 15 271 = s2 15 271) (g2 : ∀ i, 272 ≤ i → τ 15 i = if i = 272 + σ 15 265 then s2 15 265 else s2 15 i) : zs_rr σ τ o x := by
  have b : ∀ i, 265 < i → i ≠ 270 → i ≠ 271 → s2 15 i = σ 15 i := fun i i0 i1 i2 => by rw [f2 i i0, e1]; exact zs_up3_o (by omega) i2 i1
  have e5 : s2 15 265 = τ 15 265 := (g 265 (by decide)).symm
  rw [b _ (by omega) (by omega) (by omega), b _ (by omega) (by omega) (by omega), e5] at g7
  rw [b _ (by omega) (by omega) (by omega)] at g6 g8
  rw [b _ (by omega) (by omega) (by omega), b _ (by omega) (by omega) (by omega), e5] at g9
  refine ⟨w, ai, hw, ha, fun i hi => ?_, g6, g7, g8, g9, ?_, ?_, fun i hi => ?_⟩
  · rw [g i hi, e2 i, e1]; rfl
  · rw [g0, f2 270 (by decide), e1]; rfl
  · rw [g1, f2 271 (by decide), e1]; rfl
  · rw [g2 i hi, e5]
    by_cases c : i = 272 + σ 15 265
    · rw [if_pos c, if_pos c]
    · rw [if_neg c, if_neg c]; exact b i (by omega) (by omega) (by omega)
theorem zs_rno_n {σ : zq_S} (h : zs_rno σ) : ¬ zs_rcan σ := by
  obtain ⟨o, h1, h2⟩ := h
  rintro ⟨u, k1, k2⟩
  obtain ⟨a1, a2, -⟩ := k1.2 k2
  exact (h1.1 h2).2 u k2 a1 a2
/-- where the LOG's loop stands: x rows, so whether it goes on -/
def zs_lgi (p n x so : Int) (σ0 σ : zq_S) : Prop := (so = 1 → (x < n → zs_cn (zs_Rl p) x σ0 σ) ∧ (x = n → n = 0 ∨ ∃ μ, zs_cn (zs_Rl p) (n - 1) σ0 μ ∧ zs_rlo p (n - 1) μ)) ∧ (so = 0 → x < n ∧ ((∃ μ, zs_cn (zs_Rl p) x σ0 μ ∧ ¬ zs_rlo p x μ) ∨ (0 < x ∧ ∃ μ, zs_cn (zs_Rl p) (x - 1) σ0 μ ∧ zs_rlo p (x - 1) μ ∧ zs_rno μ)))
theorem zs_lgi_0 {p n : Int} {σ : zq_S} : zs_lgi p n 0 1 σ σ := ⟨fun _ => ⟨fun _ => zs_cn_0 _ _, fun h => Or.inl h.symm⟩, fun h => absurd h (by decide)⟩
/-- not so -/
theorem zs_lgi_n {p n x : Int} {σ0 σ τ : zq_S} (hx : x < n) (h : zs_lgi p n x 1 σ0 σ) (q : ¬ zs_rlo p x σ) : zs_lgi p n x 0 σ0 τ := ⟨fun h => absurd h (by decide), fun _ => ⟨hx, Or.inl ⟨σ, (h.1 rfl).1 hx, q⟩⟩⟩
/-- so, and it was the last -/
theorem zs_lgi_e {p n x : Int} {σ0 σ τ : zq_S} (hx : x < n) (he : x + 1 = n) (h : zs_lgi p n x 1 σ0 σ) (q : zs_rlo p x σ) : zs_lgi p n (x + 1) 1 σ0 τ := ⟨fun _ => ⟨fun h => absurd h (by omega), fun _ => Or.inr ⟨σ, by rw [show n - 1 = x by omega]; exact (h.1 rfl).1 hx, by rw [show n - 1 = x by omega]; exact q⟩⟩, fun h => absurd h (by decide)⟩
/-- so, and no step -/
theorem zs_lgi_o {p n x : Int} {σ0 σ τ : zq_S} (h0 : 0 ≤ x) (hx : x + 1 < n) (h : zs_lgi p n x 1 σ0 σ) (q : zs_rlo p x σ) (r : zs_rno σ) : zs_lgi p n (x + 1) 0 σ0 τ := ⟨fun h => absurd h (by decide), fun _ => ⟨hx, Or.inr ⟨by omega, σ, by rw [show x + 1 - 1 = x by omega]; exact (h.1 rfl).1 (by omega), by rw [show x + 1 - 1 = x by omega]; exact q, r⟩⟩⟩
/-- so, and a step -/
theorem zs_lgi_s {p n x : Int} {σ0 σ τ : zq_S} (h0 : 0 ≤ x) (hx : x + 1 < n) (h : zs_lgi p n x 1 σ0 σ) (r : zs_Rl p x σ τ) : zs_lgi p n (x + 1) 1 σ0 τ := ⟨fun _ => ⟨fun _ => zs_cn_s h0 ((h.1 rfl).1 (by omega)) r, fun h => absurd h (by omega)⟩, fun h => absurd h (by decide)⟩
theorem zs_lgi_r {p n x so : Int} {σ0 σ : zq_S} (h0 : 0 ≤ x) (hs : so = 0 ∨ so = 1) (hx : x ≤ n) (he : so = 0 ∨ n ≤ x) (h : zs_lgi p n x so σ0 σ) : zs_rs (zs_rlo p) zs_rcan (zs_Rl p) n x σ0 := by
  refine ⟨h0, ?_⟩
  by_cases c : so = 0
  · obtain ⟨a, b⟩ := h.2 c
    rcases b with ⟨μ, b1, b2⟩ | ⟨b0, μ, b1, b2, b3⟩
    · exact Or.inr (Or.inl ⟨a, μ, b1, b2⟩)
    · exact Or.inr (Or.inr ⟨b0, a, μ, b1, b2, zs_rno_n b3⟩)
  · have e : x = n := by omega
    exact Or.inl ⟨e, (h.1 (by omega)).2 e⟩
def zs_cpr (σ μ : zq_S) : Prop := zx_T μ ∧ zx_O μ ∧ zx_K μ ∧ zx_W μ ∧ ∀ a i, a ≠ 17 → μ a i = σ a i
/-- the stepper as ahead -/
def zs_as (σ τ : zq_S) : Prop := (∀ i, 0 ≤ i → i < 336 → τ 15 i = σ 15 i) ∧ (∀ j, τ 16 j = σ 16 j) ∧ τ 0 26 = σ 0 26 ∧ τ 0 27 = σ 0 27
