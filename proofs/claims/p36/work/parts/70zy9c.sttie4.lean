/-! ===== runs of steps, side by side ===== -/
def zs_rg (σ τ : zq_S) : Prop := ∀ a i, a ≠ 15 → a ≠ 16 → a ≠ 17 → a ≠ 18 → ¬ (a = 0 ∧ (i = 26 ∨ i = 27 ∨ i = 30)) → τ a i = σ a i
theorem zs_rg_of {σ τ : zq_S} (h : zs_rf σ τ) : zs_rg σ τ := fun a i h1 h2 _ h4 h5 => h a i h1 h2 h4 h5
/-- what of the class T3 and T4 speak of -/
def zs_cg (σ τ : zq_S) : Prop := (∀ i, τ 3 i = σ 3 i) ∧ (∀ i, τ 10 i = σ 10 i) ∧ (∀ i, τ 11 i = σ 11 i) ∧ (∀ i, τ 139 i = σ 139 i) ∧ (∀ a i, zc_kd a = 4 → τ a i = σ a i) ∧ (∀ a k i, zc_kd a = 4 → 1 ≤ k → k ≤ 5 → τ (a + k) i = σ (a + k) i)
theorem zs_cg_of {L : List (Nat × Int)} {σ τ : zq_S} (f : zc_Fr L σ τ) (n3 : L.any (fun q => q.1 == 3) = false) (n10 : L.any (fun q => q.1 == 10) = false) (n11 : L.any (fun q => q.1 == 11) = false) (n139 : L.any (fun q => q.1 == 139) = false) (n4 : L.any (fun q => q.1 == 4) = false) (hA : (L.any (fun q => q.1 == 5) || L.any (fun q => q.1 == 6) || L.any (fun q => q.1 == 7) || L.any (fun q => q.1 == 8) || L.any (fun q => q.1 == 9)) = false) : zs_cg σ τ :=
  ⟨fun i => f 3 i (zc_out_ar zc_s3 n3), fun i => f 10 i (zc_out_ar zc_s10 n10), fun i => f 11 i (zc_out_ar zc_s11 n11), fun i => f 139 i (zc_out_ar zc_s139 n139), fun a i ka => f a i (zc_out_ar ka n4), zs_A5 f hA⟩
theorem zs_T34 {σ τ ρ π : zq_S} (hσ : zc_T σ) (hρ : zx_T ρ) (c : zs_cg σ τ) (r : zs_rg ρ π) (hT3 : zu_T3 σ ρ) (hT4 : zu_T4 σ ρ) : zu_T3 τ π ∧ zu_T4 τ π := by
  obtain ⟨c3, c10, c11, c139, c4, cA⟩ := c
  have z3 := zx_g3 hρ
  have e3 := hT3.1.1
  have g : ∀ a i, 1 ≤ a → a ≤ 14 → π a i = ρ a i := fun a i a1 a14 => r a i (by omega) (by omega) (by omega) (by omega) (by omega)
  have g0 : ∀ i, i ≠ 26 → i ≠ 27 → i ≠ 30 → π 0 i = ρ 0 i := fun i i1 i2 i3 => r 0 i (by decide) (by decide) (by decide) (by decide) (by omega)
  refine ⟨zu_T3_same hρ hT3 ⟨c3 3, c3 5, c10, c11⟩ (by rw [c3, g0 18 (by decide) (by decide) (by decide)]; exact hT3.1.2) (g0 3 (by decide) (by decide) (by decide)) (g0 0 (by decide) (by decide) (by decide)) (g0 1 (by decide) (by decide) (by decide)) (g0 2 (by decide) (by decide) (by decide)) (fun o o0 o1 => ?_) (fun o o0 o1 => ?_), zu_T4_fr c139 (fun i => g 14 i (by decide) (by decide)) hT4⟩
  · have ka : zc_kd (σ 10 o) = 4 := zc_ga10 hσ zc_s10 o o0 (by omega)
    exact ⟨⟨c4 _ 0 ka, c4 _ 1 ka, c4 _ 2 ka, c4 _ 4 ka, c4 _ 5 ka, c4 _ 6 ka, c4 _ 11 ka, c4 _ 12 ka, c4 _ 13 ka⟩, fun k i k1 k5 => cA _ k i ka k1 k5⟩
  · exact ⟨g 1 o (by decide) (by decide), fun i _ _ => g 2 i (by decide) (by decide), g 3 o (by decide) (by decide), g 4 o (by decide) (by decide), g 5 o (by decide) (by decide), g 7 o (by decide) (by decide), fun i _ _ => g 6 i (by decide) (by decide)⟩
theorem zs_simT {n m : Int} {σ τ ρ π : zq_S} (hT : zs_TT σ ρ) (hc : zs_Rc n σ τ) (hr : zs_Rr m ρ π) : zs_TT τ π := by
  have h5 := zs_sim5 (n := n) hT hc hr
  obtain ⟨⟨w0, w1, w2, w3⟩, hT3, hT4, -⟩ := hT
  obtain ⟨hσ, -, f, -, -⟩ := hc
  obtain ⟨hρ, -, -, -, rf, -⟩ := hr
  have g := zs_T34 hσ hρ (zs_cg_of f rfl rfl rfl rfl rfl rfl) (zs_rg_of rf) hT3 hT4
  exact ⟨⟨by rw [f 3 0 (zc_out_at zc_s3 rfl), rf 0 0 (by decide) (by decide) (by decide) (by omega)]; exact w0, by rw [f 3 1 (zc_out_at zc_s3 rfl), rf 0 1 (by decide) (by decide) (by decide) (by omega)]; exact w1, by rw [f 3 2 (zc_out_at zc_s3 rfl), rf 0 2 (by decide) (by decide) (by decide) (by omega)]; exact w2, by rw [f 140 12 (zc_out_at zc_s140 rfl), rf 0 29 (by decide) (by decide) (by decide) (by omega)]; exact w3⟩, g.1, g.2, h5⟩
theorem zs_ch_pre {R : Int → zq_S → zq_S → Prop} {σ : zq_S} : ∀ {m : Nat} {τ : zq_S}, zs_ch R m σ τ → ∀ k : Nat, k < m → ∃ μ π, zs_ch R k σ μ ∧ R k μ π := by
  intro m
  induction m with
  | zero => intro τ _ k hk; exact absurd hk (Nat.not_lt_zero k)
  | succ m ih =>
    intro τ h k hk
    obtain ⟨μ, h1, h2⟩ := h
    by_cases c : k = m
    · subst c; exact ⟨μ, τ, h1, h2⟩
    · exact ih h1 k (by omega)
section ZSC
variable {R R' : Int → zq_S → zq_S → Prop} {C C' : zq_S → Prop} {Q : zq_S → zq_S → Prop}
theorem zs_ch_sim (st : ∀ k σ τ ρ π, Q σ ρ → R k σ τ → R' k ρ π → Q τ π) {σ ρ : zq_S} (h : Q σ ρ) : ∀ {m : Nat} {τ π : zq_S}, zs_ch R m σ τ → zs_ch R' m ρ π → Q τ π := by
  intro m
  induction m with
  | zero =>
    intro τ π a b
    have a : τ = σ := a
    have b : π = ρ := b
    rw [a, b]
    exact h
  | succ m ih =>
    intro τ π a b
    obtain ⟨μ, a1, a2⟩ := a
    obtain ⟨ν, b1, b2⟩ := b
    exact st _ _ _ _ _ (ih a1 b1) a2 b2
/-- n steps at most, side by side -/
theorem zs_rn_sim (st : ∀ k σ τ ρ π, Q σ ρ → R k σ τ → R' k ρ π → Q τ π) (hR : ∀ k σ τ, R k σ τ → C σ) (hR' : ∀ k ρ π, R' k ρ π → C' ρ) (hC : ∀ σ ρ, Q σ ρ → (C σ ↔ C' ρ)) {n d e : Int} {σ τ ρ π : zq_S} (h : Q σ ρ) (d0 : 0 ≤ d) (dn : d ≤ n) (a : zs_cn R d σ τ) (a2 : d < n → ¬ C τ) (e0 : 0 ≤ e) (en : e ≤ n) (b : zs_cn R' e ρ π) (b2 : e < n → ¬ C' π) : d = e ∧ Q τ π := by
  have lt : ¬ d < e := fun c => by
    obtain ⟨μ, ν, h1, h2⟩ := zs_ch_pre b d.toNat (by omega)
    have q := zs_ch_sim st h a h1
    exact a2 (by omega) ((hC _ _ q).mpr (hR' _ _ _ h2))
  have gt : ¬ e < d := fun c => by
    obtain ⟨μ, ν, h1, h2⟩ := zs_ch_pre a e.toNat (by omega)
    have q := zs_ch_sim st h h1 b
    exact b2 (by omega) ((hC _ _ q).mp (hR _ _ _ h2))
  have eq : d = e := by omega
  subst eq
  exact ⟨rfl, zs_ch_sim st h a b⟩
/-- the first row that is not so: not further on this side -/
theorem zs_rs_lt {S S' : Int → zq_S → Prop} (st : ∀ k σ τ ρ π, Q σ ρ → R k σ τ → R' k ρ π → Q τ π) (hR' : ∀ k ρ π, R' k ρ π → S' k ρ ∧ C' ρ) {n r r' : Int} {σ ρ : zq_S} (hC : ∀ σ ρ, Q σ ρ → (C' ρ → C σ)) (hS : ∀ k σ ρ, 0 ≤ k → k < n → Q σ ρ → (S' k ρ → S k σ)) (h : Q σ ρ) (a : zs_rs S C R n r σ) (b : zs_rs S' C' R' n r' ρ) : ¬ r < r' := fun lt => by
  obtain ⟨r0, a⟩ := a
  obtain ⟨r0', b⟩ := b
  have rn' : r' ≤ n := by rcases b with ⟨b, -⟩ | ⟨b, -⟩ | ⟨-, b, -⟩ <;> omega
  -- the state at k < r' : so there
  have so : ∀ (k : Int) (μ : zq_S), 0 ≤ k → k < r' → zs_cn R k σ μ → S k μ := fun k μ k0 k1 hk => by
    have pre : ∀ (m : Int) (ν : zq_S), k < m → zs_cn R' m ρ ν → S k μ := fun m ν km hm => by
      obtain ⟨x, y, h1, h2⟩ := zs_ch_pre hm k.toNat (by omega)
      rw [show ((k.toNat : Nat) : Int) = k by omega] at h2
      exact hS k _ _ k0 (by omega) (zs_ch_sim st h hk h1) (hR' _ _ _ h2).1
    have at_ : ∀ (ν : zq_S), zs_cn R' k ρ ν → S' k ν → S k μ := fun ν hm q => hS k _ _ k0 (by omega) (zs_ch_sim st h hk hm) q
    rcases b with ⟨b1, b2⟩ | ⟨b1, ν, b2, -⟩ | ⟨b0, b1, ν, b2, b3, -⟩
    · rcases b2 with b2 | ⟨ν, b2, b3⟩
      · omega
      · by_cases c : k = n - 1
        · subst c; exact at_ ν b2 b3
        · exact pre _ ν (by omega) b2
    · exact pre _ ν k1 b2
    · by_cases c : k = r' - 1
      · subst c; exact at_ ν b2 b3
      · exact pre _ ν (by omega) b2
  rcases a with ⟨a1, -⟩ | ⟨a1, μ, a2, a3⟩ | ⟨a0, a1, μ, a2, a3, a4⟩
  · omega
  · exact a3 (so r μ r0 lt a2)
  · -- a step there, on the other side
    have pre : ∀ (m : Int) (ν : zq_S), r - 1 < m → zs_cn R' m ρ ν → False := fun m ν km hm => by
      obtain ⟨x, y, h1, h2⟩ := zs_ch_pre hm (r - 1).toNat (by omega)
      exact a4 (hC _ _ (zs_ch_sim st h a2 h1) (hR' _ _ _ h2).2)
    rcases b with ⟨b1, b2⟩ | ⟨b1, ν, b2, -⟩ | ⟨b0, b1, ν, b2, b3, -⟩
    · rcases b2 with b2 | ⟨ν, b2, b3⟩
      · omega
      · exact pre _ ν (by omega) b2
    · exact pre _ ν (by omega) b2
    · exact pre _ ν (by omega) b2
end ZSC
def zs_Q5 (σ ρ : zq_S) : Prop := zs_TT σ ρ ∧ zx_T ρ ∧ zx_K ρ
theorem zs_Q5_st : ∀ k σ τ ρ π, zs_Q5 σ ρ → zs_Rc k σ τ → zs_Rr k ρ π → zs_Q5 τ π := fun k σ τ ρ π q hc hr => by
  have t := zs_simT q.1 hc hr
  obtain ⟨-, hπ, -, hK, rf, -⟩ := hr
  exact ⟨t, hπ, zx_K_fr (fun i => rf 14 i (by decide) (by decide) (by decide) (by omega)) (rf 0 2 (by decide) (by decide) (by decide) (by omega)) hK⟩
theorem zs_Q5_C : ∀ σ ρ, zs_Q5 σ ρ → (zs_can σ 141 ↔ zs_rcan ρ) := fun σ ρ q => by
  obtain ⟨⟨-, hT3, hT4, hT5⟩, hρ, hK⟩ := q
  exact (zs_can_iff (b := 141) hρ hK hT3 hT4 ((hT5.2.2.1 265 (by unfold zs_ix; omega)).trans zs_row_265)).2.2.1
theorem zu_runL {σ τ ρ π : zq_S} {n u v : Int} (hρ : zx_T ρ) (hK : zx_K ρ) (hT : zs_TT σ ρ) (g : (¬ (1 ≤ n ∧ n ≤ 2000) → v = -1 ∧ ∀ a i, τ a i = σ a i) ∧ (1 ≤ n ∧ n ≤ 2000 → ∃ d, 0 ≤ d ∧ d ≤ n ∧ v = (if d = 0 then -5 else d) ∧ zs_cn zs_Rc d σ τ ∧ (d < n → ¬ zs_can τ 141))) (k : (¬ (1 ≤ n ∧ n ≤ 2000) → u = -1 ∧ ∀ a i, π a i = ρ a i) ∧ (1 ≤ n ∧ n ≤ 2000 → ∃ d μ, 0 ≤ d ∧ d ≤ n ∧ u = (if d = 0 then -5 else d) ∧ zs_cn zs_Rr d ρ μ ∧ zx_T μ ∧ (∀ a i, a ≠ 18 → ¬ (a = 0 ∧ i = 30) → π a i = μ a i) ∧ (d < n → zs_rno μ))) : u = v ∧ zu_T5 τ π := by
  by_cases c : 1 ≤ n ∧ n ≤ 2000
  · obtain ⟨d, d0, dn, hv, a, a2⟩ := g.2 c
    obtain ⟨e, μ, e0, en, hu, b, hμ, fμ, b2⟩ := k.2 c
    obtain ⟨ed, q⟩ := zs_rn_sim (C := fun s => zs_can s 141) (C' := zs_rcan) (Q := zs_Q5) zs_Q5_st (fun _ _ _ h => h.2.2.2.1) (fun _ _ _ h => by obtain ⟨-, -, -, -, -, o, o1, o2, -⟩ := h; exact ⟨o, o1, o2⟩) zs_Q5_C ⟨hT, hρ, hK⟩ d0 dn a a2 e0 en b (fun h => zs_rno_n (b2 h))
    refine ⟨by rw [hu, hv, ed], zu_T5_fr rfl rfl rfl (fun _ => rfl) (fun _ => rfl) rfl rfl rfl rfl rfl rfl rfl rfl (fun _ => rfl) (fun _ _ _ _ => rfl) (fμ 0 0 (by decide) (by omega)) (fμ 0 26 (by decide) (by omega)) (fμ 0 27 (by decide) (by omega)) (fun i _ _ => fμ 15 i (by decide) (by omega)) (fun i => fμ 16 i (by decide) (by omega)) q.1.2.2.2⟩
  · obtain ⟨v1, e1⟩ := g.1 c
    obtain ⟨u1, e2⟩ := k.1 c
    have es : τ = σ := funext (fun a => funext (fun i => e1 a i))
    have er : π = ρ := funext (fun a => funext (fun i => e2 a i))
    rw [es, er]
    exact ⟨by omega, hT.2.2.2⟩
/-! ===== back ===== -/
theorem zs_UF_add {R : Int → Int → Int} {nx nx' n : Int} {s : Int → Int} (h0 : 0 ≤ n) (hn : nx' = (nx + 100 - n) % 100) : ∀ k : Nat, zs_UF R nx' (zs_UF R nx s n.toNat) k = zs_UF R nx s (k + n.toNat) := by
  intro k
  induction k with
  | zero => rw [zs_UF_0, Nat.zero_add]
  | succ k ih => rw [zs_UF_s, ih, show k + 1 + n.toNat = (k + n.toNat) + 1 by omega, zs_UF_s, show (nx' + 99 - (k : Int)) % 100 = (nx + 99 - ((k + n.toNat : Nat) : Int)) % 100 by omega]
theorem zs_U_add {σ τ : zq_S} {n k : Int} (n0 : 0 ≤ n) (k0 : 0 ≤ k) (h6 : τ 140 6 = (σ 140 6 + 100 - n) % 100) (hR : ∀ r i, 0 ≤ r → r < 100 → τ (154 + r) i = σ (154 + r) i) (hs : zs_row τ = zs_U σ n) : zs_U τ k = zs_U σ (k + n) := by
  have e := zs_UF_add (R := fun r => σ (154 + r)) (nx := σ 140 6) (s := zs_row σ) n0 h6 k.toNat
  have c := zs_UF_c (R := fun r => σ (154 + r)) (R' := fun r => τ (154 + r)) (nx := τ 140 6) (s := zs_row τ) (fun r r0 r1 => funext (fun i => hR r i r0 r1)) k.toNat
  have c' : zs_U τ k = zs_UF (fun r => σ (154 + r)) (τ 140 6) (zs_row τ) k.toNat := c
  have hs' : zs_row τ = zs_UF (fun r => σ (154 + r)) (σ 140 6) (zs_row σ) n.toNat := hs
  rw [c', hs', e]
  show _ = zs_UF (fun r => σ (154 + r)) (σ 140 6) (zs_row σ) (k + n).toNat
  rw [show (k + n).toNat = k.toNat + n.toNat by omega]
theorem zu_backL {σ τ ρ π : zq_S} {n u v : Int} (hT5 : zu_T5 σ ρ) (m0 : τ 141 0 = σ 141 0) (hR : ∀ r i, 0 ≤ r → r < 100 → τ (154 + r) i = σ (154 + r) i) (r00 : π 0 0 = ρ 0 0) (r16 : ∀ i, π 16 i = ρ 16 i) (g : (¬ (1 ≤ n ∧ n ≤ 100) → v = -1 ∧ ∀ a i, τ a i = σ a i) ∧ (1 ≤ n ∧ n ≤ 100 → (σ 140 5 < n → v = -2 ∧ ∀ a i, τ a i = σ a i) ∧ (n ≤ σ 140 5 → v = σ 140 5 - n ∧ τ 140 5 = σ 140 5 - n ∧ τ 140 6 = (σ 140 6 + 100 - n) % 100 ∧ zs_row τ = zs_U σ n ∧ τ 140 13 = 0 ∧ τ 140 14 = 0))) (k : (¬ (1 ≤ n ∧ n ≤ 100) → u = -1 ∧ ∀ a i, π a i = ρ a i) ∧ (1 ≤ n ∧ n ≤ 100 → (ρ 0 26 < n → u = -2 ∧ ∀ a i, π a i = ρ a i) ∧ (n ≤ ρ 0 26 → u = ρ 0 26 - n ∧ π 0 26 = ρ 0 26 - n ∧ π 0 27 = ((ρ 0 27 + 100 - n) % 100) ∧ ∀ i, 0 ≤ i → i < 336 → π 15 i = if i = 270 then 0 else ρ 16 (336 * ((ρ 0 27 + 100 - n) % 100) + i)))) : u = v ∧ zu_T5 τ π := by
  have same : ∀ {x y : Int}, (v = x ∧ ∀ a i, τ a i = σ a i) → (u = y ∧ ∀ a i, π a i = ρ a i) → x = y → u = v ∧ zu_T5 τ π := fun a b e => by
    have es : τ = σ := funext (fun x => funext (fun i => a.2 x i))
    have er : π = ρ := funext (fun x => funext (fun i => b.2 x i))
    rw [es, er]
    exact ⟨by rw [a.1, b.1, e], hT5⟩
  by_cases c : 1 ≤ n ∧ n ≤ 100
  · have g := g.2 c
    have k := k.2 c
    have r26 := hT5.2.1
    by_cases d : σ 140 5 < n
    · exact same (g.1 d) (k.1 (by omega)) rfl
    · obtain ⟨g1, g2, g3, g4, g5, g6⟩ := g.2 (by omega)
      obtain ⟨k1, k2, k3, k4⟩ := k.2 (by omega)
      obtain ⟨a1, a2, a3, a4, a5, a6, a7⟩ := hT5
      have U : ∀ q, 0 ≤ q → zs_U τ q = zs_U σ (q + n) := fun q q0 => zs_U_add (by omega) q0 g3 hR g4
      have p270 := k4 270 (by decide) (by decide)
      rw [if_pos rfl] at p270
      refine ⟨by omega, ⟨by rw [m0, r00]; exact a1, by omega, fun i hi => ?_, fun q q0 q1 => ⟨fun i hi => ?_, ?_⟩, fun q q0 q1 => ?_, ⟨by omega, by omega⟩, Or.inl ⟨by omega, by omega⟩⟩⟩
      · have z := (a4 (n - 1) (by omega) (by omega)).1 i hi
        rw [show n - 1 + 1 = n by omega, show (ρ 0 27 + 99 - (n - 1)) % 100 = (ρ 0 27 + 100 - n) % 100 by omega] at z
        rw [k4 i hi.1 hi.2.1, if_neg hi.2.2.1, g4, z]
      · have z := (a4 (q + n) (by omega) (by omega)).1 i hi
        rw [show (ρ 0 27 + 99 - (q + n)) % 100 = ((ρ 0 27 + 100 - n) % 100 + 99 - q) % 100 by omega] at z
        rw [r16, k3, U (q + 1) (by omega), show q + 1 + n = q + n + 1 by omega, z]
      · have z := (a4 (q + n) (by omega) (by omega)).2
        rw [g3, show τ (154 + ((σ 140 6 + 100 - n) % 100 + 99 - q) % 100) = σ (154 + (σ 140 6 + 99 - (q + n)) % 100) from funext (fun i => by rw [hR _ i (by omega) (by omega), show ((σ 140 6 + 100 - n) % 100 + 99 - q) % 100 = (σ 140 6 + 99 - (q + n)) % 100 by omega])]
        exact z
      · rw [m0, U q q0]
        exact a5 (q + n) (by omega) (by omega)
  · exact same (g.1 c) (k.1 c) rfl
/-! ===== set, get, so ===== -/
theorem zs_k8 {w : Int} (h : 1 ≤ w ∧ w ≤ 3) : zx_p2 w ≤ 8 := by
  have hw : w = 1 ∨ w = 2 ∨ w = 3 := by omega
  rcases hw with rfl | rfl | rfl
  · show (2 : Int) ≤ 8; decide
  · show (4 : Int) ≤ 8; decide
  · show (8 : Int) ≤ 8; decide
theorem zs_row_hi {σ τ : zq_S} {i : Int} (c8 : τ 140 8 = σ 140 8) (c9 : τ 140 9 = σ 140 9) (c10 : τ 140 10 = σ 140 10) (c11 : τ 140 11 = σ 140 11) (hg : ∀ i, τ 254 i = σ 254 i) (hi : 265 < i) : zs_row τ i = zs_row σ i := by
  by_cases b : i ≤ 269
  · have hi : i = 266 ∨ i = 267 ∨ i = 268 ∨ i = 269 := by omega
    rcases hi with rfl | rfl | rfl | rfl
    · rw [zs_row_266, zs_row_266, c8]
    · rw [zs_row_267, zs_row_267, c9]
    · rw [zs_row_268, zs_row_268, c10]
    · rw [zs_row_269, zs_row_269, c11]
  · rw [zs_row_g (by omega), zs_row_g (by omega), hg]
theorem zs_pl_w {K m w i : Int} (K8 : K ≤ 8) (m255 : m ≤ 255) (h : 0 ≤ zs_pl K m w i) : (w = 2 ∧ zs_pl K m w i = 264) ∨ (w = 3 ∧ zs_pl K m w i = 265) ∨ (w ≠ 2 ∧ w ≠ 3 ∧ zs_pl K m w i < 264) := by
  unfold zs_pl at h ⊢
  by_cases c0 : w = 0
  · rw [if_pos c0] at h ⊢
    by_cases c : 0 ≤ i ∧ i < K
    · rw [if_pos c]; omega
    · rw [if_neg c] at h; omega
  · rw [if_neg c0] at h ⊢
    by_cases c1 : w = 1
    · rw [if_pos c1] at h ⊢
      by_cases c : 0 ≤ i ∧ i ≤ m
      · rw [if_pos c]; omega
      · rw [if_neg c] at h; omega
    · rw [if_neg c1] at h ⊢
      by_cases c2 : w = 2
      · rw [if_pos c2]; omega
      · rw [if_neg c2] at h ⊢
        by_cases c3 : w = 3
        · rw [if_pos c3]; omega
        · rw [if_neg c3] at h; omega
theorem zs_ok_up {F s : Int → Int} {m P v : Int} (h : zw_ok F s m) (v0 : 0 ≤ v) (h1 : P < 264 → v ≤ m) (h2 : P = 264 → v ≤ 1) (h3 : P = 265 → v ≤ 63) : zw_ok F (zw_up s P v) m := by
  obtain ⟨a1, a2, a3, a4, a5, a6⟩ := h
  refine ⟨a1, a2, fun i i0 i1 => ?_, ?_, ?_, a6⟩
  · show 0 ≤ (if i = P then v else s i) ∧ (if i = P then v else s i) ≤ m
    by_cases c : i = P
    · rw [if_pos c]; exact ⟨v0, h1 (by omega)⟩
    · rw [if_neg c]; exact a3 i i0 i1
  · show 0 ≤ (if (264 : Int) = P then v else s 264) ∧ (if (264 : Int) = P then v else s 264) ≤ 1
    by_cases c : (264 : Int) = P
    · rw [if_pos c]; exact ⟨v0, h2 c.symm⟩
    · rw [if_neg c]; exact a4
  · show 0 ≤ (if (265 : Int) = P then v else s 265) ∧ (if (265 : Int) = P then v else s 265) ≤ 63
    by_cases c : (265 : Int) = P
    · rw [if_pos c]; exact ⟨v0, h3 c.symm⟩
    · rw [if_neg c]; exact a5
theorem zs_row_ρ {σ ρ : zq_S} (h : zu_T5 σ ρ) {i : Int} (i0 : 0 ≤ i) (i1 : i ≤ 265) : ρ 15 i = zw_cs σ 141 i := (h.2.2.1 i ⟨i0, by omega, by omega, by omega⟩).trans (zs_row_l i1)
theorem zu_setL {σ τ ρ π : zq_S} {what i v r u : Int} (hσ : zc_T σ) (hρ : zx_T ρ) (e0 : σ 3 0 = ρ 0 0) (e1 : σ 3 1 = ρ 0 1) (hT5 : zu_T5 σ ρ) (m0 : τ 141 0 = σ 141 0) (c8 : τ 140 8 = σ 140 8) (c9 : τ 140 9 = σ 140 9) (c10 : τ 140 10 = σ 140 10) (c11 : τ 140 11 = σ 140 11) (hg : ∀ i, τ 254 i = σ 254 i) (r00 : π 0 0 = ρ 0 0) (g : zs_se (zw_cs σ 141) (zw_cs τ 141) (zs_pl (zx_p2 (σ 3 1)) (zx_p2 (σ 3 0) - 1) what i) (zs_mo what (zx_p2 (σ 3 0) - 1)) v r ∧ (¬ (zs_pl (zx_p2 (σ 3 1)) (zx_p2 (σ 3 0) - 1) what i < 0 ∨ v < 0 ∨ zs_mo what (zx_p2 (σ 3 0) - 1) < v) → τ 140 5 = 0 ∧ τ 140 13 = 0 ∧ τ 140 14 = 0) ∧ (zs_pl (zx_p2 (σ 3 1)) (zx_p2 (σ 3 0) - 1) what i < 0 ∨ v < 0 ∨ zs_mo what (zx_p2 (σ 3 0) - 1) < v → ∀ a i, τ a i = σ a i)) (k : (zs_pl (zx_p2 (ρ 0 1)) (zx_p2 (ρ 0 0) - 1) what i < 0 ∨ v < 0 ∨ zs_mo what (zx_p2 (ρ 0 0) - 1) < v → u = -1 ∧ ∀ a i, π a i = ρ a i) ∧ (¬ (zs_pl (zx_p2 (ρ 0 1)) (zx_p2 (ρ 0 0) - 1) what i < 0 ∨ v < 0 ∨ zs_mo what (zx_p2 (ρ 0 0) - 1) < v) → u = ρ 15 (zs_pl (zx_p2 (ρ 0 1)) (zx_p2 (ρ 0 0) - 1) what i) ∧ (∀ j, π 15 j = if j = 270 then 0 else if j = zs_pl (zx_p2 (ρ 0 1)) (zx_p2 (ρ 0 0) - 1) what i then v else ρ 15 j) ∧ π 0 26 = 0)) : u = r ∧ zu_T5 τ π := by
  rw [e0, e1] at g
  have K8 := zs_k8 (zx_g1 hρ)
  have M8 := (zs_mk (zx_g0 hρ)).1.2.1
  obtain ⟨⟨s1, s2⟩, g5, g6⟩ := g
  by_cases c : zs_pl (zx_p2 (ρ 0 1)) (zx_p2 (ρ 0 0) - 1) what i < 0 ∨ v < 0 ∨ zs_mo what (zx_p2 (ρ 0 0) - 1) < v
  · obtain ⟨u1, e2⟩ := k.1 c
    have es : τ = σ := funext (fun a => funext (fun i => g6 c a i))
    have er : π = ρ := funext (fun a => funext (fun i => e2 a i))
    rw [es, er]
    exact ⟨by rw [u1, (s1 c).1], hT5⟩
  · obtain ⟨s3, s4⟩ := s2 c
    obtain ⟨c5, c13, c14⟩ := g5 c
    obtain ⟨k1, k2, k3⟩ := k.2 c
    have pw := zs_pl_w (w := what) (i := i) K8 M8 (by omega)
    have ok := (zs_ok_ρ hT5 (zc_g140_5 hσ zc_s140).1).1
    have mo : zs_mo what (zx_p2 (ρ 0 0) - 1) = if what = 2 then 1 else if what = 3 then 63 else zx_p2 (ρ 0 0) - 1 := rfl
    have m1 := hT5.1
    generalize zs_pl (zx_p2 (ρ 0 1)) (zx_p2 (ρ 0 0) - 1) what i = P at *
    have p0 : 0 ≤ P ∧ P ≤ 265 := by omega
    have k270 := k2 270
    rw [if_pos rfl] at k270
    refine ⟨by rw [k1, s3, zs_row_ρ hT5 p0.1 p0.2], ⟨by rw [m0, r00]; exact m1, by omega, fun j hj => ?_, fun q q0 q1 => absurd q1 (by omega), fun q q0 q1 => ?_, ⟨by omega, by omega⟩, Or.inl ⟨by omega, by omega⟩⟩⟩
    · rw [k2 j, if_neg hj.2.2.1]
      by_cases d : j ≤ 265
      · rw [zs_row_l d, s4]
        show _ = if j = P then v else zw_cs σ 141 j
        by_cases d2 : j = P
        · rw [if_pos d2, if_pos d2]
        · rw [if_neg d2, if_neg d2]; exact zs_row_ρ hT5 hj.1 d
      · rw [if_neg (by omega), zs_row_hi c8 c9 c10 c11 hg (by omega)]; exact hT5.2.2.1 j hj
    · rw [m0, show q = 0 by omega, zs_U_0]
      refine zs_ok_c (s := zw_cs τ 141) (fun j _ j1 => zs_row_l j1) ?_
      rw [s4]
      refine zs_ok_up ok (by omega) (fun h => ?_) (fun h => ?_) (fun h => ?_)
      · rw [if_neg (by omega), if_neg (by omega)] at mo; omega
      · rw [if_pos (by omega)] at mo; omega
      · rw [if_neg (by omega), if_pos (by omega)] at mo; omega
theorem zs_gg_mk {σ ρ : zq_S} (hT3 : zu_T3 σ ρ) : zs_gg ρ := fun o o0 o1 q => by
  have hor := hT3.2.2.1 o o0 o1
  have := hor.2.2.1.2.1 (by have := hor.2.2.1.1.1; omega)
  have z := hor.2.2.1.1.2.1
  omega
/-! ===== LOGS ===== -/
def zs_TL (σ ρ : zq_S) : Prop := (zx_T ρ ∧ zx_O ρ ∧ zx_K ρ) ∧ (σ 3 0 = ρ 0 0 ∧ σ 3 1 = ρ 0 1) ∧ zu_T3 σ ρ ∧ zu_T4 σ ρ ∧ zu_T9 σ ρ ∧ (∀ i, 0 ≤ i → i ≤ 265 → zw_cs σ 147 i = ρ 15 i) ∧ σ 147 0 = zx_p2 (ρ 0 0) - 1 ∧ zw_ok (fun _ => 0) (zw_cs σ 147) (σ 147 0)
theorem zs_TL_C : ∀ σ ρ, zs_TL σ ρ → (zs_can σ 147 ↔ zs_rcan ρ) := fun σ ρ q => by
  obtain ⟨⟨hρ, hO, hK⟩, -, hT3, hT4, -, hc, -⟩ := q
  exact (zs_can_iff (b := 147) hρ hK hT3 hT4 (by rw [← hc 265 (by decide) (by decide), zw_cs_p])).2.2.1
theorem zs_TL_S {sheet fr n : Int} (s0 : 0 ≤ sheet) (s3 : sheet ≤ 3) (f0 : 0 ≤ fr) (fn : fr + 3 * n ≤ 30) : ∀ k σ ρ, 0 ≤ k → k < n → zs_TL σ ρ → (zs_lo (280 + sheet) fr k σ ↔ zs_rlo (30 * sheet + fr) k ρ) := fun k σ ρ k0 k1 q => by
  obtain ⟨⟨hρ, hO, hK⟩, ⟨e0, e1⟩, -, -, h9, hc, -⟩ := q
  have K8 := zs_k8 (zx_g1 hρ)
  have i0 : ρ 40 (30 * sheet + fr + 3 * k) = σ (280 + sheet) (fr + 3 * k) := by
    have z := h9 sheet (fr + 3 * k) s0 s3 (by omega) (by omega)
    rw [show 30 * sheet + (fr + 3 * k) = 30 * sheet + fr + 3 * k by omega] at z; exact z
  have i1 : ρ 40 (30 * sheet + fr + 3 * k + 1) = σ (280 + sheet) (fr + 3 * k + 1) := by
    have z := h9 sheet (fr + 3 * k + 1) s0 s3 (by omega) (by omega)
    rw [show 30 * sheet + (fr + 3 * k + 1) = 30 * sheet + fr + 3 * k + 1 by omega] at z; exact z
  have i2 : ρ 40 (30 * sheet + fr + 3 * k + 2) = σ (280 + sheet) (fr + 3 * k + 2) := by
    have z := h9 sheet (fr + 3 * k + 2) s0 s3 (by omega) (by omega)
    rw [show 30 * sheet + (fr + 3 * k + 2) = 30 * sheet + fr + 3 * k + 2 by omega] at z; exact z
  unfold zs_lo zs_rlo zs_is
  rw [i0, i1, i2, e1, hc 265 (by decide) (by decide)]
  constructor
  · rintro ⟨a, b, c, d⟩
    exact ⟨a, b, c, by rw [d]; exact hc _ b (by omega)⟩
  · rintro ⟨a, b, c, d⟩
    exact ⟨a, b, c, by rw [d]; exact (hc _ b (by omega)).symm⟩
theorem zs_TL_st {sheet fr p : Int} : ∀ k σ τ ρ π, zs_TL σ ρ → zs_Rt sheet fr k σ τ → zs_Rl p k ρ π → zs_TL τ π := fun k σ τ ρ π q hc hr => by
  obtain ⟨⟨hρ, hO, hK⟩, ⟨e0, e1⟩, hT3, hT4, h9, hcs, m0, ok⟩ := q
  obtain ⟨hσ, ⟨-, pok⟩, f, can, -, ⟨cD, cok, cF⟩⟩ := hc
  obtain ⟨-, hπ, -, -, rf, -, ⟨o, ow, o0, ⟨w, ai, -, ⟨ai0, ai1, aib⟩, st, -⟩, -⟩⟩ := hr
  have zp := zx_stP hρ
  have e265 : ρ 15 265 = σ 147 4 := by rw [← hcs 265 (by decide) (by decide), zw_cs_p]
  obtain ⟨ex, ⟨x0, x1⟩, -, own⟩ := zs_can_iff (b := 147) hρ hK hT3 hT4 e265
  obtain ⟨own1, o1⟩ := own o ow o0
  have hor := hT3.2.2.1 o o0 o1
  have eoa : zs_oa σ 147 = σ 10 o := by unfold zs_oa; rw [ex, own1]
  rw [ex, eoa] at cF
  rw [eoa] at cD
  have em : τ 147 0 = σ 147 0 := f 147 0 (zc_out_at zc_s147 rfl)
  have e00 : π 0 0 = ρ 0 0 := rf 0 0 (by decide) (by decide) (by decide) (by omega)
  have g := zs_T34 hσ hρ (zs_cg_of f rfl rfl rfl rfl rfl rfl) (zs_rg_of rf) hT3 hT4
  have okρ : zw_ok (fun _ => 0) (ρ 15) (zx_p2 (ρ 0 0) - 1) := by rw [← m0]; exact zs_ok_c (fun i i0 i1 => (hcs i i0 i1).symm) ok
  refine ⟨⟨hπ, zx_O_fr (fun i => rf 2 i (by decide) (by decide) (by decide) (by omega)) (fun i => rf 5 i (by decide) (by decide) (by decide) (by omega)) (fun i => rf 6 i (by decide) (by decide) (by decide) (by omega)) (rf 0 2 (by decide) (by decide) (by decide) (by omega)) (rf 0 3 (by decide) (by decide) (by decide) (by omega)) hO, zx_K_fr (fun i => rf 14 i (by decide) (by decide) (by decide) (by omega)) (rf 0 2 (by decide) (by decide) (by decide) (by omega)) hK⟩, ⟨by rw [f 3 0 (zc_out_at zc_s3 rfl), e00]; exact e0, by rw [f 3 1 (zc_out_at zc_s3 rfl), rf 0 1 (by decide) (by decide) (by decide) (by omega)]; exact e1⟩, g.1, g.2, zu_T9_fr (fun s i s0 s3 => f (280 + s) i (zc_out_ar (zc_e280 (i := s) s0 (by omega)) rfl)) (fun i => rf 40 i (by decide) (by decide) (by decide) (by omega)) h9, fun i i0 i1 => ?_, by rw [em, e00]; exact m0, by rw [em]; exact zs_ok_z cok⟩
  rw [st i i1, cD, m0]
  have k := zs_do_tie (σ := σ) (la := ρ 7 o - 1) (ai := ai) (v := (σ 147 4 + 1) % 64) hρ hO o0 o1 hor x0 x1 hcs okρ cF (by omega) i i0 i1
  rw [k]
  unfold zs_D
  rw [e265]
theorem zu_logL {σ ρ : zq_S} {sheet lane fr n u v : Int} (hl : ∀ j, 0 ≤ j → j ≤ 3 → σ 277 j = ρ 38 j ∧ σ 278 j = ρ 39 j) (hz : ∀ j, 0 ≤ j → j ≤ 3 → ρ 39 j ≤ 30) (e0 : σ 3 0 = ρ 0 0) (e1 : σ 3 1 = ρ 0 1) (hT3 : zu_T3 σ ρ) (hT4 : zu_T4 σ ρ) (hT5 : zu_T5 σ ρ) (h9 : zu_T9 σ ρ) (hσ : zc_T σ) (hρ : zx_T ρ) (g : (¬ (0 ≤ sheet ∧ sheet ≤ 3 ∧ 0 ≤ lane ∧ lane ≤ 2 ∧ 0 ≤ n ∧ n ≤ 10) → v = -1) ∧ ((0 ≤ sheet ∧ sheet ≤ 3 ∧ 0 ≤ lane ∧ lane ≤ 2 ∧ 0 ≤ n ∧ n ≤ 10) → (σ 277 sheet ≠ lane → (σ 277 sheet < 0 → v = -11) ∧ (0 ≤ σ 277 sheet → v = -12)) ∧ (σ 277 sheet = lane → (¬ (0 ≤ fr ∧ fr ≤ σ 278 sheet - 3 * n) → v = -13) ∧ (0 ≤ fr ∧ fr ≤ σ 278 sheet - 3 * n → ∃ μ, zs_cp σ μ ∧ zs_rs (zs_lo (280 + sheet) fr) (fun μ => zs_can μ 147) (zs_Rt (280 + sheet) fr) n v μ)))) (k : (¬ (0 ≤ sheet ∧ sheet ≤ 3 ∧ 0 ≤ lane ∧ lane ≤ 2 ∧ 0 ≤ n ∧ n ≤ 10) → u = -1) ∧ ((0 ≤ sheet ∧ sheet ≤ 3 ∧ 0 ≤ lane ∧ lane ≤ 2 ∧ 0 ≤ n ∧ n ≤ 10) → (ρ 38 sheet ≠ lane → (ρ 38 sheet < 0 → u = -11) ∧ (0 ≤ ρ 38 sheet → u = -12)) ∧ (ρ 38 sheet = lane → (¬ (0 ≤ fr ∧ fr ≤ ρ 39 sheet - 3 * n) → u = -13) ∧ (0 ≤ fr ∧ fr ≤ ρ 39 sheet - 3 * n → ∃ μ, zs_cpr ρ μ ∧ zs_rs (zs_rlo (30 * sheet + fr)) zs_rcan (zs_Rl (30 * sheet + fr)) n u μ)))) : u = v := by
  by_cases c : 0 ≤ sheet ∧ sheet ≤ 3 ∧ 0 ≤ lane ∧ lane ≤ 2 ∧ 0 ≤ n ∧ n ≤ 10
  · have g := g.2 c
    have k := k.2 c
    obtain ⟨l1, l2⟩ := hl sheet c.1 c.2.1
    have z := hz sheet c.1 c.2.1
    rw [l1, l2] at g
    by_cases d : ρ 38 sheet = lane
    · have g := g.2 d
      have k := k.2 d
      by_cases e : 0 ≤ fr ∧ fr ≤ ρ 39 sheet - 3 * n
      · obtain ⟨μ, ⟨hμ, f, hc, m, ⟨-, pok⟩⟩, a⟩ := g.2 e
        obtain ⟨ν, ⟨hν, hO, hK, -, fν⟩, b⟩ := k.2 e
        have c5 := (zc_g140_5 hσ zc_s140).1
        have rg : zs_rg ρ ν := fun a i _ _ h17 _ _ => fν a i h17
        have t := zs_T34 hσ hρ (zs_cg_of f rfl rfl rfl rfl rfl rfl) rg hT3 hT4
        have e00 : ν 0 0 = ρ 0 0 := fν 0 0 (by decide)
        have Q : zs_TL μ ν := ⟨⟨hν, hO, hK⟩, ⟨by rw [f 3 0 (zc_out_at zc_s3 rfl), e00]; exact e0, by rw [f 3 1 (zc_out_at zc_s3 rfl), fν 0 1 (by decide)]; exact e1⟩, t.1, t.2, zu_T9_fr (fun s i s0 s3 => f (280 + s) i (zc_out_ar (zc_e280 (i := s) s0 (by omega)) rfl)) (fun i => fν 40 i (by decide)) h9, fun i i0 i1 => by rw [hc i i0 i1, fν 15 i (by decide)]; exact (zs_row_ρ hT5 i0 i1).symm, by rw [m, e00]; exact hT5.1, pok⟩
        have fn : fr + 3 * n ≤ 30 := by omega
        have lt := zs_rs_lt (Q := zs_TL) (R := zs_Rt (280 + sheet) fr) (R' := zs_Rl (30 * sheet + fr)) zs_TL_st (fun _ _ _ h => ⟨h.2.2.2.2.2.1, by obtain ⟨-, -, -, -, -, -, o, o1, o2, -⟩ := h; exact ⟨o, o1, o2⟩⟩) (fun s r q => (zs_TL_C s r q).mpr) (fun k s r k0 k1 q => (zs_TL_S c.1 c.2.1 e.1 fn k s r k0 k1 q).mpr) Q a b
        have gt := zs_rs_lt (Q := fun r s => zs_TL s r) (R := zs_Rl (30 * sheet + fr)) (R' := zs_Rt (280 + sheet) fr) (fun k ρ π σ τ q a b => zs_TL_st k σ τ ρ π q b a) (fun _ _ _ h => ⟨h.2.2.2.2.1, h.2.2.2.1⟩) (fun r s q => (zs_TL_C s r q).mp) (fun k r s k0 k1 q => (zs_TL_S c.1 c.2.1 e.1 fn k s r k0 k1 q).mp) Q b a
        omega
      · rw [g.1 e, k.1 e]
    · have g := g.1 d
      have k := k.1 d
      by_cases e : ρ 38 sheet < 0
      · rw [g.1 e, k.1 e]
      · rw [g.2 (by omega), k.2 (by omega)]
  · rw [g.1 c, k.1 c]

