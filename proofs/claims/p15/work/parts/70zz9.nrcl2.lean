/-! ===== the narrow machine: what the class finds out ===== -/
def zn_R (σ : zq_S) (s : Int → Int) : Prop := zn_rA (σ 134 5) (σ 135) (σ 138) s
def zn_A (σ : zq_S) (s : Int → Int) : Prop := zn_aA (σ 134 5) (σ 135) (σ 138) s
def zn_K (σ : zq_S) : Int := zn_rk (σ 135) (σ 138) (σ 134 5).toNat
def zn_bi (x : Int) : Int := if x < 5 then x else 5
def zn_bit (x : Int) : Int := if x < 5 then zx_p2 x else 32
/-- s leaves a store of bit i otherwise -/
def zn_cb (A : Int → Int) (o g d n : Int) (s : Int → Int) (i : Nat) : Prop := ∃ x, 0 ≤ x ∧ x ≤ 8 ∧ zn_bi x = i ∧ zn_o A o g d n s x ≠ s x
/-- what the ORDER writes -/
def zn_Wm (A : Int → Int) (o g d n r : Int) : Prop := (0 ≤ r ∧ r ≤ 63) ∧ ∀ i : Nat, zw_tb r i ↔ ∃ s, zn_st s ∧ zn_cb A o g d n s i
def zn_Lk (A : Int → Int) (o g d n : Int) (B : Int → Int) (p h e m : Int) : Prop := ∀ s, zn_st s → ∀ x, 0 ≤ x → x ≤ 8 → zn_o A o g d n s x = zn_o B p h e m s x
noncomputable def zn_b1 (P : Prop) (r b : Int) : Int := @ite _ (zq_and r b = 0 ∧ P) (Classical.propDecidable _) (zq_or r b) r
theorem zn_b1_y {P : Prop} {r b : Int} (h : zq_and r b = 0 ∧ P) : zn_b1 P r b = zq_or r b := by unfold zn_b1; exact if_pos h
theorem zn_b1_n {P : Prop} {r b : Int} (h : ¬ (zq_and r b = 0 ∧ P)) : zn_b1 P r b = r := by unfold zn_b1; exact if_neg h
noncomputable def zn_bs (P : Int → Prop) : Nat → Int
  | 0 => 0
  | n + 1 => zn_b1 (P n) (zn_bs P n) (zn_bit n)
theorem zn_bs_y {P : Int → Prop} {n : Nat} (h : zq_and (zn_bs P n) (zn_bit n) = 0 ∧ P n) : zn_bs P (n + 1) = zq_or (zn_bs P n) (zn_bit n) := zn_b1_y h
theorem zn_bs_n {P : Int → Prop} {n : Nat} (h : ¬ (zq_and (zn_bs P n) (zn_bit n) = 0 ∧ P n)) : zn_bs P (n + 1) = zn_bs P n := zn_b1_n h
def zn_bsI (P : Int → Prop) (r k : Int) : Prop := r = zn_bs P k.toNat
theorem zn_bsI_y {P : Int → Prop} {r b k : Int} (k0 : 0 ≤ k) (hb : b = zn_bit k) (h : zn_bsI P r k) (h1 : zq_and r b = 0) (h2 : P k) : zn_bsI P (zq_or r b) (k + 1) := by
  obtain ⟨n, rfl⟩ := Int.eq_ofNat_of_zero_le k0
  have h : r = zn_bs P n := h
  show zq_or r b = zn_bs P (n + 1)
  subst h hb
  exact (zn_bs_y ⟨h1, h2⟩).symm
theorem zn_bsI_n {P : Int → Prop} {r b k : Int} (k0 : 0 ≤ k) (hb : b = zn_bit k) (h : zn_bsI P r k) (h1 : zq_and r b ≠ 0 ∨ ¬ P k) : zn_bsI P r (k + 1) := by
  obtain ⟨n, rfl⟩ := Int.eq_ofNat_of_zero_le k0
  have h : r = zn_bs P n := h
  show r = zn_bs P (n + 1)
  subst h hb
  exact (zn_bs_n (fun q => h1.elim (fun z => z q.1) (fun z => z q.2))).symm
theorem zn_bs_c {P Q : Int → Prop} (h : ∀ x, 0 ≤ x → x ≤ 8 → (P x ↔ Q x)) : ∀ n : Nat, n ≤ 9 → zn_bs P n = zn_bs Q n := by
  intro n
  induction n with
  | zero => intro _; rfl
  | succ n ih =>
    intro hn
    have e := ih (by omega)
    have k := h n (by omega) (by omega)
    by_cases c : zq_and (zn_bs P n) (zn_bit n) = 0 ∧ P n
    · rw [zn_bs_y c, zn_bs_y ⟨by rw [← e]; exact c.1, k.mp c.2⟩, e]
    · rw [zn_bs_n c, zn_bs_n (fun q => c ⟨by rw [e]; exact q.1, k.mpr q.2⟩), e]
theorem zn_bitF : ∀ x : Fin 9, 1 ≤ zn_bit ((x.val : Nat) : Int) ∧ zn_bit ((x.val : Nat) : Int) ≤ 32 ∧ 0 ≤ zn_bi ((x.val : Nat) : Int) ∧ zn_bi ((x.val : Nat) : Int) ≤ 5 ∧ zn_bit ((x.val : Nat) : Int) = ((2 ^ (zn_bi ((x.val : Nat) : Int)).toNat : Nat) : Int) := by decide
theorem zn_bit_b {x : Int} (h : 0 ≤ x ∧ x ≤ 8) : (1 ≤ zn_bit x ∧ zn_bit x ≤ 32 ∧ 0 ≤ zn_bi x ∧ zn_bi x ≤ 5) ∧ ∀ i : Nat, zw_tb (zn_bit x) i ↔ zn_bi x = i := by
  have q := zn_bitF ⟨x.toNat, by omega⟩
  have e : (((⟨x.toNat, by omega⟩ : Fin 9).val : Nat) : Int) = x := by show ((x.toNat : Nat) : Int) = x; omega
  rw [e] at q
  refine ⟨⟨q.1, q.2.1, q.2.2.1, q.2.2.2.1⟩, fun i => ?_⟩
  rw [zw_tb_2 (zn_bi x).toNat q.2.2.2.2]
  omega
section ZNK
variable {σ μ τ s1 : zq_S} {x f : Int} {s : Int → Int}
/-! on to the next state -/
def zn_go (σ μ : zq_S) : Prop := ∀ f, zn_W f σ → zn_W f μ ∧ zn_Ph (μ 135) (μ 138) (μ 134 5).toNat = zn_Ph (σ 135) (σ 138) (σ 134 5).toNat ∧ ∀ s, zn_st s → zn_R σ s → zn_A σ s ∨ zn_lA (μ 134 5) (μ 135) (μ 138) s
def zn_gn (σ τ : zq_S) (r : Int) : Prop := ∀ f, zn_W f σ → zn_W f τ ∧ (r = 0 → ∀ s, zn_st s → zn_R σ s → zn_A σ s) ∧ (r = 1 → zn_K σ + 1 ≤ zn_K τ ∧ ∀ s, zn_st s → zn_R σ s → zn_A σ s ∨ zn_R τ s)
theorem zn_go_0 : zn_go σ σ := fun _ w => ⟨w, rfl, fun _ _ r => zn_lA_0 r⟩
theorem zn_go_pop (k1 : 1 ≤ μ 134 5) (hx : x = μ 138 (μ 134 5 - 1)) (hv : zn_v x ≤ μ 135 x + 1) (e1 : s1 = zq_up μ 135 x (-1)) (e2 : τ = zq_up s1 134 5 (μ 134 5 - 1)) (h : zn_go σ μ) : zn_go σ τ := fun f w => by
  obtain ⟨wm, ph, r⟩ := h f w
  have hal : ∀ y, τ 135 y = if y = μ 138 (μ 134 5 - 1) then -1 else μ 135 y := fun y => by
    rw [e2, zq_up_ne (by omega), e1, ← hx]
    by_cases c : y = x
    · rw [if_pos c, c, zq_up_same]
    · rw [if_neg c, zq_up_ne (by omega)]
  have k5 : τ 134 5 = μ 134 5 - 1 := by rw [e2, zq_up_same]
  have k0 : τ 134 0 = μ 134 0 := by rw [e2, zq_up_ne (by omega), e1, zq_up_ne (by omega)]
  have h138 : τ 138 = μ 138 := funext (fun i => by rw [e2, zq_up_ne (by omega), e1, zq_up_ne (by omega)])
  obtain ⟨p1, p2, p3⟩ := zn_pop wm.2 k1 (by rw [← hx]; exact hv) hal
  refine ⟨⟨by rw [k0]; exact wm.1, by rw [k5, h138]; exact p1⟩, by rw [k5, h138, p2]; exact ph, fun s hs q => ?_⟩
  rcases r s hs q with z | z
  · exact Or.inl z
  · rw [k5, h138]; exact Or.inr (p3 s hs z)
theorem zn_go_inc (k1 : 1 ≤ μ 134 5) (hx : x = μ 138 (μ 134 5 - 1)) (hv : μ 135 x + 1 < zn_v x) (e1 : τ = zq_up μ 135 x (μ 135 x + 1)) (h : zn_go σ μ) : zn_gn σ τ 1 := fun f w => by
  obtain ⟨wm, ph, r⟩ := h f w
  have hal : ∀ y, τ 135 y = if y = μ 138 (μ 134 5 - 1) then μ 135 (μ 138 (μ 134 5 - 1)) + 1 else μ 135 y := fun y => by
    rw [e1, ← hx]
    by_cases c : y = x
    · rw [if_pos c, c, zq_up_same]
    · rw [if_neg c, zq_up_ne (by omega)]
  have k5 : τ 134 5 = μ 134 5 := by rw [e1, zq_up_ne (by omega)]
  have k0 : τ 134 0 = μ 134 0 := by rw [e1, zq_up_ne (by omega)]
  have h138 : τ 138 = μ 138 := funext (fun i => by rw [e1, zq_up_ne (by omega)])
  obtain ⟨p1, p2, p3⟩ := zn_inc wm.2 k1 (by rw [← hx]; exact hv) hal
  refine ⟨⟨by rw [k0]; exact wm.1, by rw [k5, h138]; exact p1⟩, fun h => absurd h (by decide), fun _ => ⟨?_, fun s hs q => ?_⟩⟩
  · have z := zn_Ph_rk (k := σ 134 5) (al := σ 135) (A := σ 138)
    unfold zn_K
    rw [k5, h138, p2, ph]
    exact z
  · rcases r s hs q with z | z
    · exact Or.inl z
    · refine Or.inr ?_
      unfold zn_R
      rw [k5, h138]
      exact p3 s z
theorem zn_go_end (k : μ 134 5 ≤ 0) (h : zn_go σ μ) : zn_gn σ μ 0 := fun f w => by
  obtain ⟨wm, ph, r⟩ := h f w
  refine ⟨wm, fun _ s hs q => ?_, fun h => absurd h (by decide)⟩
  rcases r s hs q with z | ⟨j, j0, j1, -⟩
  · exact z
  · omega
/-! more is asked -/
theorem zn_R_G (w : zn_W f σ) (k : zn_fs f σ) (g : zn_G σ τ) (hs : zn_st s) (r : zn_R σ s) : zn_R τ s := zn_rA_x w.2 g.2 (g.1 f w k).2 hs r
theorem zn_A_G (w : zn_W f σ) (g : zn_G σ τ) (a : zn_A τ s) : zn_A σ s := zn_aA_x w.2 g.2 a
theorem zn_K_G (w : zn_W f σ) (g : zn_G σ τ) : zn_K τ = zn_K σ := zn_rk_x w.2 g.2
theorem zn_cp_A (w : zn_W f σ) (a : zn_A σ s) (hf : 0 ≤ f → f ≤ 9 → s f = σ 135 f) : zn_cp σ s := fun _ x0 x9 h => zn_aA_c w.2 a hf x0 x9 h
theorem zn_K_le (w : zn_W f σ) : zn_K σ + 1 ≤ 524288 := zn_rk_le w.2
theorem zn_W_0 (h0 : τ 134 0 = 3) (h5 : τ 134 5 = 0) (h : ∀ x, 0 ≤ x → x ≤ 9 → τ 135 x = -1) (f : Int) : zn_W f τ ∧ zn_K τ = 0 ∧ ∀ s, zn_R τ s := by
  refine ⟨⟨h0, ?_⟩, ?_, fun s => ?_⟩
  · rw [h5]; exact zn_wA_0 h
  · unfold zn_K; rw [h5]; rfl
  · unfold zn_R; rw [h5]; exact zn_rA_0
theorem zn_fs_n (σ : zq_S) : zn_fs (-1) σ := fun h _ => absurd h (by decide)
/-! what is changed -/
/-- bits of slots below n that s leaves otherwise -/
def zn_cbn (A : Int → Int) (o g d n : Int) (s : Int → Int) (m : Int) (i : Nat) : Prop := ∃ x, 0 ≤ x ∧ x < m ∧ zn_bi x = i ∧ zn_o A o g d n s x ≠ s x
theorem zn_cbn_s {A : Int → Int} {o g d n m : Int} {i : Nat} (m0 : 0 ≤ m) : zn_cbn A o g d n s (m + 1) i ↔ zn_cbn A o g d n s m i ∨ (zn_bi m = i ∧ zn_o A o g d n s m ≠ s m) := by
  constructor
  · rintro ⟨x, x0, x1, q⟩
    by_cases c : x = m
    · rw [c] at q; exact Or.inr q
    · exact Or.inl ⟨x, x0, by omega, q⟩
  · rintro (⟨x, x0, x1, q⟩ | q)
    · exact ⟨x, x0, by omega, q⟩
    · exact ⟨m, m0, by omega, q⟩
theorem zn_cb_9 {A : Int → Int} {o g d n : Int} {i : Nat} : zn_cbn A o g d n s 9 i ↔ zn_cb A o g d n s i := ⟨fun ⟨x, x0, x1, q⟩ => ⟨x, x0, by omega, q⟩, fun ⟨x, x0, x1, q⟩ => ⟨x, x0, by omega, q⟩⟩
/-- the bits found below slot m -/
def zn_cI (A : Int → Int) (o g d n : Int) (τ : zq_S) (b m : Int) : Prop := (0 ≤ b ∧ b ≤ 63) ∧ ∀ s, zn_st s → zn_cp τ s → ∀ i : Nat, zw_tb b i ↔ zn_cbn A o g d n s m i
theorem zn_cI_0 {A : Int → Int} {o g d n : Int} : zn_cI A o g d n τ 0 0 := ⟨by decide, fun s _ _ i => ⟨fun h => absurd h zw_tb_0, fun ⟨x, x0, x1, _⟩ => absurd x1 (by omega)⟩⟩
theorem zn_or63 {b c : Int} (hb : 0 ≤ b ∧ b ≤ 63) (hc : 0 ≤ c ∧ c ≤ 63) : 0 ≤ zq_or b c ∧ zq_or b c ≤ 63 := by
  have z := zq_or_b (x := b) (y := c) 6 64 (by decide) (by decide) (by omega) (by omega)
  omega
theorem zn_cI_n {A : Int → Int} {o g d n b m : Int} (m0 : 0 ≤ m) (X : zn_X σ τ) (h : zn_cI A o g d n σ b m) (q : ∀ s, zn_st s → zn_cp τ s → zn_o A o g d n s m = s m) : zn_cI A o g d n τ b (m + 1) := ⟨h.1, fun s hs hc i => by
  rw [h.2 s hs (zn_cp_X X hc) i, zn_cbn_s m0]
  exact ⟨Or.inl, fun z => z.elim id (fun z => absurd (q s hs hc) z.2)⟩⟩
theorem zn_cI_y {A : Int → Int} {o g d n b m c : Int} (m0 : 0 ≤ m ∧ m ≤ 8) (X : zn_X σ τ) (h : zn_cI A o g d n σ b m) (hb : c = zn_bit m) (q : ∀ s, zn_st s → zn_cp τ s → zn_o A o g d n s m ≠ s m) : zn_cI A o g d n τ (zq_or b c) (m + 1) := by
  have bb := zn_bit_b m0
  subst hb
  refine ⟨zn_or63 h.1 (by omega), fun s hs hc i => ?_⟩
  have b1 := h.1
  rw [zw_tb_or (by omega) (by omega), h.2 s hs (zn_cp_X X hc) i, bb.2 i, zn_cbn_s m0.1]
  exact ⟨fun z => z.elim Or.inl (fun z => Or.inr ⟨z, q s hs hc⟩), fun z => z.elim Or.inl (fun z => Or.inr z.1)⟩
/-- the bits of all states gone through -/
def zn_wI (A : Int → Int) (o g d n : Int) (τ : zq_S) (b : Int) : Prop := (0 ≤ b ∧ b ≤ 63) ∧ (∀ s, zn_st s → zn_R τ s ∨ ∀ i : Nat, zn_cb A o g d n s i → zw_tb b i) ∧ ∀ i : Nat, zw_tb b i → ∃ s, zn_st s ∧ zn_cb A o g d n s i
theorem zn_wI_0 {A : Int → Int} {o g d n : Int} (h : ∀ s, zn_R τ s) : zn_wI A o g d n τ 0 := ⟨by decide, fun s _ => Or.inl (h s), fun i h => absurd h zw_tb_0⟩
theorem zn_A_cp (w : zn_W (-1) τ) (a : zn_A τ s) : zn_cp τ s := zn_cp_A w a (fun h => absurd h (by decide))
/-- one turn -/
theorem zn_wI_c {A : Int → Int} {o g d n b c : Int} (w : zn_W (-1) σ) (G : zn_G σ τ) (h : zn_wI A o g d n σ b) (k : zn_cI A o g d n τ c 9) : (0 ≤ zq_or b c ∧ zq_or b c ≤ 63) ∧ (∀ s, zn_st s → (zn_R τ s ∧ ¬ zn_A τ s) ∨ ∀ i : Nat, zn_cb A o g d n s i → zw_tb (zq_or b c) i) ∧ ∀ i : Nat, zw_tb (zq_or b c) i → ∃ s, zn_st s ∧ zn_cb A o g d n s i := by
  obtain ⟨h1, h2, h3⟩ := h
  obtain ⟨k1, k2⟩ := k
  have wt := G.1 _ w (zn_fs_n σ)
  have or_ : ∀ i, zw_tb (zq_or b c) i ↔ zw_tb b i ∨ zw_tb c i := fun i => zw_tb_or (by omega) (by omega)
  refine ⟨zn_or63 h1 k1, fun s hs => ?_, fun i hi => ?_⟩
  · by_cases a : zn_A τ s
    · exact Or.inr (fun i hi => (or_ i).mpr (Or.inr ((k2 s hs (zn_A_cp wt a) i).mpr (zn_cb_9.mpr hi))))
    · rcases h2 s hs with r | r
      · exact Or.inl ⟨zn_R_G w (zn_fs_n σ) G hs r, a⟩
      · exact Or.inr (fun i hi => (or_ i).mpr (Or.inl (r i hi)))
  · rcases (or_ i).mp hi with q | q
    · exact h3 i q
    · obtain ⟨s, hs, hc⟩ := zn_some wt.2 (fun h => absurd h (by decide))
      exact ⟨s, hs, zn_cb_9.mp ((k2 s hs hc i).mp q)⟩
/-- on -/
theorem zn_wI_s {A : Int → Int} {o g d n b : Int} (w : zn_W (-1) μ) (h : (0 ≤ b ∧ b ≤ 63) ∧ (∀ s, zn_st s → (zn_R μ s ∧ ¬ zn_A μ s) ∨ ∀ i : Nat, zn_cb A o g d n s i → zw_tb b i) ∧ ∀ i : Nat, zw_tb b i → ∃ s, zn_st s ∧ zn_cb A o g d n s i) (q : zn_gn μ τ 1) : zn_wI A o g d n τ b := ⟨h.1, fun s hs => (h.2.1 s hs).elim (fun z => Or.inl ((((q _ w).2.2 rfl).2 s hs z.1).resolve_left z.2)) Or.inr, h.2.2⟩
/-- none is left -/
theorem zn_wI_e {A : Int → Int} {o g d n b : Int} (w : zn_W (-1) μ) (h : (0 ≤ b ∧ b ≤ 63) ∧ (∀ s, zn_st s → (zn_R μ s ∧ ¬ zn_A μ s) ∨ ∀ i : Nat, zn_cb A o g d n s i → zw_tb b i) ∧ ∀ i : Nat, zw_tb b i → ∃ s, zn_st s ∧ zn_cb A o g d n s i) (q : zn_gn μ τ 0) : zn_Wm A o g d n b := ⟨h.1, fun i => ⟨h.2.2 i, fun ⟨s, hs, hi⟩ => (h.2.1 s hs).elim (fun z => absurd ((q _ w).2.1 rfl s hs z.1) z.2) (fun z => z i hi)⟩⟩
/-- all that it aims at is found -/
theorem zn_wI_a {A : Int → Int} {o g d n b : Int} (h : (0 ≤ b ∧ b ≤ 63) ∧ (∀ s, zn_st s → (zn_R μ s ∧ ¬ zn_A μ s) ∨ ∀ i : Nat, zn_cb A o g d n s i → zw_tb b i) ∧ ∀ i : Nat, zw_tb b i → ∃ s, zn_st s ∧ zn_cb A o g d n s i) (k : ∀ s, zn_st s → ∀ i : Nat, zn_cb A o g d n s i → zw_tb b i) : zn_Wm A o g d n b := ⟨h.1, fun i => ⟨h.2.2 i, fun ⟨s, hs, hi⟩ => k s hs i hi⟩⟩
/-! what is unlike -/
def zn_fv (σ : zq_S) (s : Int → Int) : Int → Int := fun x => if σ 137 x ≠ -1 then σ 137 x else s x
def zn_Fh (σ : zq_S) : Prop := ∀ x, 0 ≤ x → x ≤ 8 → σ 137 x = -1 ∨ (0 ≤ σ 137 x ∧ σ 137 x < zn_v x)
/-- below slot m nothing is unlike -/
def zn_uI (σ τ : zq_S) (but m : Int) : Prop := ∀ s, zn_st s → zn_cp τ s → ∀ y, 0 ≤ y → y < m → y ≠ but → zn_fv σ s y = zn_cv σ s y
def zn_ul (σ τ : zq_S) (but r : Int) : Prop := ∀ s, zn_st s → zn_cp τ s → (r = 1 ↔ ∃ y, 0 ≤ y ∧ y ≤ 8 ∧ y ≠ but ∧ zn_fv σ s y ≠ zn_cv σ s y)
theorem zn_uI_s {but m : Int} (X : zn_X μ τ) (h : zn_uI σ μ but m) (q : m = but ∨ ∀ s, zn_st s → zn_cp τ s → zn_fv σ s m = zn_cv σ s m) : zn_uI σ τ but (m + 1) := fun s hs hc y y0 y1 yb => by
  by_cases c : y = m
  · rcases q with q | q
    · omega
    · rw [c]; exact q s hs hc
  · exact h s hs (zn_cp_X X hc) y y0 (by omega) yb
theorem zn_ul_0 {but : Int} (h : zn_uI σ τ but 9) : zn_ul σ τ but 0 := fun s hs hc => ⟨fun q => absurd q (by decide), fun ⟨y, y0, y8, yb, q⟩ => absurd (h s hs hc y y0 (by omega) yb) q⟩
theorem zn_ul_1 {but m : Int} (m0 : 0 ≤ m ∧ m ≤ 8) (mb : m ≠ but) (h : ∀ s, zn_st s → zn_cp τ s → zn_fv σ s m ≠ zn_cv σ s m) : zn_ul σ τ but 1 := fun s hs hc => ⟨fun _ => ⟨m, m0.1, m0.2, mb, h s hs hc⟩, fun _ => rfl⟩
theorem zn_uv_same (x8 : x ≤ 8) (h : σ 137 x = σ 136 x) : zn_fv σ s x = zn_cv σ s x := by
  show (if σ 137 x ≠ -1 then σ 137 x else s x) = (if x ≤ 8 ∧ σ 136 x ≠ -1 then σ 136 x else s x)
  rw [h]
  by_cases c : σ 136 x ≠ -1
  · rw [if_pos c, if_pos ⟨x8, c⟩]
  · rw [if_neg c, if_neg (fun q => c q.2)]
end ZNK
