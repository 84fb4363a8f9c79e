/-! ===== sums: as the class holds them ===== -/
/-- an open level -/
def zs_lv (σ : zq_S) (b : Int) (G : zq_S) (e : Int) : Prop := (G 29 e < 0 → σ (b + 7) e = 0) ∧ (0 ≤ G 29 e → 0 < zt_sn (σ (b + 7) e) ∧ zt_sn (σ (b + 7) e) = G 30 e ∧ σ (b + 6) e = G 29 e)
/-- a node -/
def zs_nd (σ : zq_S) (b : Int) (G : zq_S) (i : Int) : Prop := (G 25 i = 0 → σ (b + 1) i = 1 ∧ σ (b + 2) i = G 26 i) ∧ (G 25 i = 1 → σ (b + 1) i = 2 ∧ σ (b + 2) i = G 26 i) ∧ (G 25 i = 2 → zt_sn (σ (b + 1) i) = G 26 i ∧ 0 < G 26 i ∧ σ (b + 3) i = G 27 i ∧ σ (b + 4) i = G 28 i) ∧ 0 ≤ G 25 i ∧ G 25 i ≤ 2
def zs_rp (t : Int → Int) (n : Int) (σ : zq_S) (b : Int) (G : zq_S) (k : Int) : Prop := σ b 5 = G 0 43 ∧ σ b 6 = G 0 44 ∧ zt_sk t n (σ 1 2) = zt_sk t n (G 0 15) ∧ (∀ e, 0 ≤ e → e < k → zs_lv σ b G e) ∧ (∀ i, 0 ≤ i → i < G 0 43 → zs_nd σ b G i)
def zs_I0 (t : Int → Int) (n v m : Int) (Z : Int × zq_S) (σ : zq_S) (b : Int) : Prop := ∃ G, zs_rp t n σ b G (σ b 9 + 1) ∧ zx_QA G (σ b 9) ∧ zs_P t n v m 0 (σ b 9) 0 G Z
def zs_I1 (t : Int → Int) (n v m : Int) (Z : Int × zq_S) (σ : zq_S) (b x : Int) : Prop := ∃ G, zs_rp t n σ b G (σ b 9 + 1) ∧ zx_QB G (σ b 9) x ∧ zs_P t n v m 1 (σ b 9) x G Z
def zs_I2 (t : Int → Int) (n v m : Int) (Z : Int × zq_S) (σ : zq_S) (b : Int) : Prop := ∃ G x, zs_rp t n σ b (zs_hg G (σ b 9) x) (σ b 9) ∧ σ (b + 6) (σ b 9) = zs_hg G (σ b 9) x 29 (σ b 9) ∧ zx_QC (zs_hg G (σ b 9) x) (σ b 9) ∧ zs_P t n v m 1 (σ b 9) x G Z
/-- the object's cells are as they were -/
def zs_sm (σ τ : zq_S) (b : Int) : Prop := τ b 5 = σ b 5 ∧ τ b 6 = σ b 6 ∧ (∀ i, τ (b + 1) i = σ (b + 1) i) ∧ (∀ i, τ (b + 2) i = σ (b + 2) i) ∧ (∀ i, τ (b + 3) i = σ (b + 3) i) ∧ (∀ i, τ (b + 4) i = σ (b + 4) i)
def zs_sl (σ τ : zq_S) (b : Int) : Prop := τ b 9 = σ b 9 ∧ (∀ i, τ (b + 6) i = σ (b + 6) i) ∧ (∀ i, τ (b + 7) i = σ (b + 7) i)
theorem zs_sm_rf (σ : zq_S) (b : Int) : zs_sm σ σ b := ⟨rfl, rfl, fun _ => rfl, fun _ => rfl, fun _ => rfl, fun _ => rfl⟩
section ZSC
variable {t : Int → Int} {n v m b : Int} {Z : Int × zq_S} {σ τ G H : zq_S}
theorem zs_nd_fr {i : Int} (h : zs_sm σ τ b) (hg : ∀ a, 25 ≤ a → a ≤ 28 → H a i = G a i) (q : zs_nd σ b G i) : zs_nd τ b H i := by
  unfold zs_nd
  rw [h.2.2.1, h.2.2.2.1, h.2.2.2.2.1, h.2.2.2.2.2, hg 25 (by omega) (by omega), hg 26 (by omega) (by omega), hg 27 (by omega) (by omega), hg 28 (by omega) (by omega)]
  exact q
theorem zs_lv_fr {e : Int} (h6 : τ (b + 6) e = σ (b + 6) e) (h7 : τ (b + 7) e = σ (b + 7) e) (hg : H 29 e = G 29 e ∧ H 30 e = G 30 e) (q : zs_lv σ b G e) : zs_lv τ b H e := by
  unfold zs_lv
  rw [h6, h7, hg.1, hg.2]
  exact q
theorem zs_rp_fr {k : Int} (h : zs_sm σ τ b) (h2 : zs_sl σ τ b) (hs : zt_sk t n (τ 1 2) = zt_sk t n (σ 1 2)) (q : zs_rp t n σ b G k) : zs_rp t n τ b G k :=
  ⟨h.1.trans q.1, h.2.1.trans q.2.1, hs.trans q.2.2.1, fun e e0 e1 => zs_lv_fr (h2.2.1 e) (h2.2.2 e) ⟨rfl, rfl⟩ (q.2.2.2.1 e e0 e1), fun i i0 i1 => zs_nd_fr h (fun _ _ _ => rfl) (q.2.2.2.2 i i0 i1)⟩
theorem zs_I0_fr (h : zs_sm σ τ b) (h2 : zs_sl σ τ b) (hs : zt_sk t n (τ 1 2) = zt_sk t n (σ 1 2)) (q : zs_I0 t n v m Z σ b) : zs_I0 t n v m Z τ b := by
  obtain ⟨G, r, q, p⟩ := q
  exact ⟨G, by rw [h2.1]; exact zs_rp_fr h h2 hs r, by rw [h2.1]; exact q, by rw [h2.1]; exact p⟩
theorem zs_I2_fr (h : zs_sm σ τ b) (h2 : zs_sl σ τ b) (hs : zt_sk t n (τ 1 2) = zt_sk t n (σ 1 2)) (q : zs_I2 t n v m Z σ b) : zs_I2 t n v m Z τ b := by
  obtain ⟨G, x, r, e, q, p⟩ := q
  exact ⟨G, x, by rw [h2.1]; exact zs_rp_fr h h2 hs r, by rw [h2.1, h2.2.1]; exact e, by rw [h2.1]; exact q, by rw [h2.1]; exact p⟩
theorem zs_I0_0 (h5 : τ b 5 = 0) (h6 : τ b 6 = 0) (h9 : τ b 9 = 0) (h7 : τ (b + 7) 0 = 0) (hp : τ 1 2 = 0) (hn0 : 0 ≤ n) (hn1 : n ≤ 80) (G : zq_S) : zs_I0 t n v m (zs_run t n v m 100 0 0 0 (zs_0 G)) τ b := by
  have g15 : zs_0 G 0 15 = 0 := by unfold zs_0; rw [zq_up_ne (by omega), zq_up_ne (by omega), zq_up_ne (by omega), zq_up_same]
  have g43 : zs_0 G 0 43 = 0 := by unfold zs_0; rw [zq_up_ne (by omega), zq_up_ne (by omega), zq_up_same]
  have g44 : zs_0 G 0 44 = 0 := by unfold zs_0; rw [zq_up_ne (by omega), zq_up_same]
  have g29 : zs_0 G 29 0 = -1 := by unfold zs_0; rw [zq_up_same]
  refine ⟨zs_0 G, ⟨by omega, by omega, by rw [g15, hp], fun e e0 e1 => ?_, fun i i0 i1 => absurd i1 (by omega)⟩, by rw [h9]; exact zx_QA_0 g43 g44 g29, by rw [h9]; exact zs_P_0 g15 hn0 hn1⟩
  obtain rfl : e = 0 := by omega
  exact ⟨fun _ => h7, fun q => absurd q (by omega)⟩
theorem zs_op_o {a i d : Int} (h1 : ¬ (a = 0 ∧ i = 15)) (h2 : ¬ (a = 29 ∧ i = d + 1)) : zs_op t n G d a i = G a i := by
  unfold zs_op
  rw [zq_up_ne h2, zq_up_ne h1]
theorem zs_I0_op (h0 : 0 ≤ σ b 9) (hd : σ b 9 ≠ 6) (hc : zt_nx t n (σ 1 2) = 40) (h : zs_sm σ τ b) (h9 : τ b 9 = σ b 9 + 1) (hA : ∀ i, τ (b + 6) i = σ (b + 6) i) (hB : ∀ i, i ≠ σ b 9 + 1 → τ (b + 7) i = σ (b + 7) i) (hz : τ (b + 7) (σ b 9 + 1) = 0) (hp : τ 1 2 = zt_sk t n (σ 1 2) + 1) (q : zs_I0 t n v m Z σ b) : zs_I0 t n v m Z τ b := by
  obtain ⟨G, r, q, p⟩ := q
  have hx : zt_nx t n (G 0 15) = 40 := by rw [← zt_nx_c r.2.2.1]; exact hc
  have gd : zs_op t n G (σ b 9) 29 (σ b 9 + 1) = -1 := by unfold zs_op; rw [zq_up_same]
  have ge : ∀ a i, ¬ (a = 0 ∧ i = 15) → ¬ (a = 29 ∧ i = σ b 9 + 1) → zs_op t n G (σ b 9) a i = G a i := fun a i h1 h2 => zs_op_o h1 h2
  refine ⟨zs_op t n G (σ b 9), ⟨?_, ?_, ?_, fun e e0 e1 => ?_, fun i i0 i1 => ?_⟩, ?_, ?_⟩
  · rw [ge 0 43 (by omega) (by omega), h.1]; exact r.1
  · rw [ge 0 44 (by omega) (by omega), h.2.1]; exact r.2.1
  · rw [zs_op_p, hp, r.2.2.1]
  · by_cases hc2 : e = σ b 9 + 1
    · rw [hc2]
      exact ⟨fun _ => hz, fun q => absurd q (by omega)⟩
    · exact zs_lv_fr (hA e) (hB e hc2) ⟨ge 29 e (by omega) (by omega), ge 30 e (by omega) (by omega)⟩ (r.2.2.2.1 e e0 (by omega))
  · rw [ge 0 43 (by omega) (by omega)] at i1
    exact zs_nd_fr h (fun a a0 a1 => ge a i (by omega) (by omega)) (r.2.2.2.2 i i0 i1)
  · rw [h9]
    exact zx_QA_open (σ := G) h0 (fun i => ge 25 i (by omega) (by omega)) (fun i => ge 27 i (by omega) (by omega)) (fun i => ge 28 i (by omega) (by omega)) (ge 0 43 (by omega) (by omega)) (ge 0 44 (by omega) (by omega)) (fun i hi => ge 29 i (by omega) (by omega)) gd q
  · rw [h9]
    exact zs_P_op p hx hd (zs_q_rf _) (by rw [zs_op_p])
theorem zs_I0_deep (hd : σ b 9 = 6) (hc : zt_nx t n (σ 1 2) = 40) (q : zs_I0 t n v m Z σ b) : Z.1 = 0 ∧ Z.2 0 15 = zt_sk t n (σ 1 2) := by
  obtain ⟨G, r, q, p⟩ := q
  rw [r.2.2.1]
  exact zs_P_fa p (Or.inl ⟨by rw [← zt_nx_c r.2.2.1]; exact hc, hd⟩)
theorem zs_I0_no (hc : zt_nx t n (σ 1 2) ≠ 40) (hl : 20 ≤ σ b 6 ∨ (¬ (97 ≤ zt_nx t n (σ 1 2) ∧ zt_nx t n (σ 1 2) < 97 + v) ∧ zt_nuR t n 255 (σ 1 2) < 0)) (q : zs_I0 t n v m Z σ b) : Z.1 = 0 ∧ Z.2 0 15 = zt_sk t n (σ 1 2) := by
  obtain ⟨G, r, q, p⟩ := q
  rw [zt_nx_c r.2.2.1] at hc hl
  rw [(zt_nu_c 255 r.2.2.1).1, r.2.1] at hl
  rw [r.2.2.1]
  exact zs_P_fa p (Or.inr ⟨hc, hl⟩)
/-- a node more, as the class keeps it -/
def zs_ca (σ τ : zq_S) (b K W L R : Int) : Prop := τ b 5 = σ b 5 + 1 ∧ τ (b + 1) (σ b 5) = K ∧ τ (b + 2) (σ b 5) = W ∧ τ (b + 3) (σ b 5) = L ∧ τ (b + 4) (σ b 5) = R ∧ ∀ i, i ≠ σ b 5 → τ (b + 1) i = σ (b + 1) i ∧ τ (b + 2) i = σ (b + 2) i ∧ τ (b + 3) i = σ (b + 3) i ∧ τ (b + 4) i = σ (b + 4) i
theorem zs_nd_ca {K W L R i : Int} (h : zs_ca σ τ b K W L R) (hi : i ≠ σ b 5) (hg : ∀ a, 25 ≤ a → a ≤ 28 → H a i = G a i) (q : zs_nd σ b G i) : zs_nd τ b H i := by
  obtain ⟨e1, e2, e3, e4⟩ := h.2.2.2.2.2 i hi
  unfold zs_nd
  rw [e1, e2, e3, e4, hg 25 (by omega) (by omega), hg 26 (by omega) (by omega), hg 27 (by omega) (by omega), hg 28 (by omega) (by omega)]
  exact q
def zs_lf (G : zq_S) (p K W : Int) : zq_S := zs_add (zq_up (zq_up G 0 15 p) 0 44 (G 0 44 + 1)) K W 0 0
theorem zs_lf_b (G : zq_S) (p : Int) : zq_up (zq_up G 0 15 p) 0 44 (G 0 44 + 1) 0 43 = G 0 43 := by rw [zq_up_ne (by omega), zq_up_ne (by omega)]
theorem zs_lf_43 (G : zq_S) (p K W : Int) : zs_lf G p K W 0 43 = G 0 43 + 1 := by unfold zs_lf; rw [zs_add_n, zs_lf_b]
theorem zs_lf_44 (G : zq_S) (p K W : Int) : zs_lf G p K W 0 44 = G 0 44 + 1 := by unfold zs_lf; rw [zs_add_o (by omega) (by omega), zq_up_same]
theorem zs_lf_15 (G : zq_S) (p K W : Int) : zs_lf G p K W 0 15 = p := by unfold zs_lf; rw [zs_add_o (by omega) (by omega), zq_up_ne (by omega), zq_up_same]
theorem zs_lf_o {G : zq_S} {p K W a i : Int} (h : 29 ≤ a) : zs_lf G p K W a i = G a i := by unfold zs_lf; rw [zs_add_o (by omega) (by omega), zq_up_ne (by omega), zq_up_ne (by omega)]
theorem zs_lf_e {G : zq_S} {p K W a i : Int} (ha : 25 ≤ a) (hi : i ≠ G 0 43) : zs_lf G p K W a i = G a i := by unfold zs_lf; rw [zs_add_e (by rw [zs_lf_b]; exact hi) ha, zq_up_ne (by omega), zq_up_ne (by omega)]
theorem zs_lf_25 (G : zq_S) (p K W : Int) : zs_lf G p K W 25 (G 0 43) = K := by
  have q := zs_add_25 (zq_up (zq_up G 0 15 p) 0 44 (G 0 44 + 1)) K W 0 0
  rw [zs_lf_b] at q
  exact q
theorem zs_lf_26 (G : zq_S) (p K W : Int) : zs_lf G p K W 26 (G 0 43) = W := by
  have q := zs_add_26 (zq_up (zq_up G 0 15 p) 0 44 (G 0 44 + 1)) K W 0 0
  rw [zs_lf_b] at q
  exact q
theorem zs_I0_lf {p K W : Int} (hK : K = 0 ∨ K = 1) (h0 : 0 ≤ σ b 5) (h6 : τ b 6 = σ b 6 + 1) (h2 : zs_sl σ τ b) (h : zs_ca σ τ b (K + 1) W 0 0) (hp : τ 1 2 = p) (r : zs_rp t n σ b G (σ b 9 + 1)) (q : zx_QA G (σ b 9)) (w : zs_P t n v m 1 (σ b 9) (G 0 43) (zs_lf G p K W) Z) : zs_I1 t n v m Z τ b (σ b 5) := by
  have e5 := r.1
  have k25 := zs_lf_25 G p K W
  have k26 := zs_lf_26 G p K W
  have c1 := h.2.1
  have c2 := h.2.2.1
  refine ⟨zs_lf G p K W, ⟨?_, ?_, ?_, fun e e0 e1 => ?_, fun i i0 i1 => ?_⟩, ?_, ?_⟩
  · rw [zs_lf_43, h.1, e5]
  · rw [zs_lf_44, h6, r.2.1]
  · rw [zs_lf_15, hp]
  · rw [h2.1] at e1
    exact zs_lv_fr (h2.2.1 e) (h2.2.2 e) ⟨zs_lf_o (by omega), zs_lf_o (by omega)⟩ (r.2.2.2.1 e e0 e1)
  · rw [zs_lf_43] at i1
    by_cases hc : i = σ b 5
    · rw [hc]
      rw [← e5] at k25 k26
      exact ⟨fun z => ⟨by omega, by rw [c2, k26]⟩, fun z => ⟨by omega, by rw [c2, k26]⟩, fun z => absurd z (by omega), by omega, by omega⟩
    · exact zs_nd_ca h hc (fun a a0 a1 => zs_lf_e a0 (by omega)) (r.2.2.2.2 i i0 (by omega))
  · rw [h2.1, e5]
    exact zx_QB_leaf (σ := G) (by omega) (fun i hi => zs_lf_e (by omega) hi) (fun i hi => zs_lf_e (by omega) hi) (fun i hi => zs_lf_e (by omega) hi) (fun i => zs_lf_o (by omega)) (by omega) (zs_lf_43 _ _ _ _) (zs_lf_44 _ _ _ _) q
  · rw [h2.1, e5]
    exact w
theorem zs_I0_va (hc : zt_nx t n (σ 1 2) ≠ 40) (hl : σ b 6 < 20) (hv : 97 ≤ zt_nx t n (σ 1 2) ∧ zt_nx t n (σ 1 2) < 97 + v) (h0 : 0 ≤ σ b 5) (h6 : τ b 6 = σ b 6 + 1) (h2 : zs_sl σ τ b) (h : zs_ca σ τ b 1 (zt_nx t n (σ 1 2) - 97) 0 0) (hp : τ 1 2 = zt_sk t n (σ 1 2) + 1) (q : zs_I0 t n v m Z σ b) : zs_I1 t n v m Z τ b (σ b 5) := by
  obtain ⟨G, r, q, p⟩ := q
  have hx := zt_nx_c r.2.2.1
  refine zs_I0_lf (K := 0) (p := zt_sk t n (G 0 15) + 1) (W := zt_nx t n (G 0 15) - 97) (Or.inl rfl) h0 h6 h2 (by rw [← hx]; exact h) (by rw [hp, r.2.2.1]) r q ?_
  exact zs_P_va p (by rw [← hx]; exact hc) (by rw [← r.2.1]; exact hl) (by rw [← hx]; exact hv) (zs_q_rf _) (by show zt_sk t n (zs_va t n G 0 15) = _; rw [zs_va_p])
theorem zs_I0_li (hc : zt_nx t n (σ 1 2) ≠ 40) (hl : σ b 6 < 20) (hv : ¬ (97 ≤ zt_nx t n (σ 1 2) ∧ zt_nx t n (σ 1 2) < 97 + v)) (hu : 0 ≤ zt_nuR t n 255 (σ 1 2)) (h0 : 0 ≤ σ b 5) (h6 : τ b 6 = σ b 6 + 1) (h2 : zs_sl σ τ b) (h : zs_ca σ τ b 2 (zq_and (zt_nuR t n 255 (σ 1 2)) m) 0 0) (hp : τ 1 2 = zt_nuA t n 255 (σ 1 2)) (q : zs_I0 t n v m Z σ b) : zs_I1 t n v m Z τ b (σ b 5) := by
  obtain ⟨G, r, q, p⟩ := q
  have hx := zt_nx_c r.2.2.1
  obtain ⟨u1, u2⟩ := zt_nu_c 255 r.2.2.1
  refine zs_I0_lf (K := 1) (p := zt_nuA t n 255 (G 0 15)) (W := zq_and (zt_nuR t n 255 (G 0 15)) m) (Or.inr rfl) h0 h6 h2 (by rw [← u1]; exact h) (by rw [hp, u2]) r q ?_
  exact zs_P_li p (by rw [← hx]; exact hc) (by rw [← r.2.1]; exact hl) (by rw [← hx]; exact hv) (by rw [← u1]; exact hu) (zs_q_rf _) (by show zt_sk t n (zs_li t n m G 0 15) = _; rw [zs_li_p])
theorem zs_I1_put {x : Int} (h0 : 0 ≤ σ b 9) (hz : σ (b + 7) (σ b 9) = 0) (h : zs_sm σ τ b) (h9 : τ b 9 = σ b 9) (hA : ∀ i, i ≠ σ b 9 → τ (b + 6) i = σ (b + 6) i) (hx : τ (b + 6) (σ b 9) = x) (hB : ∀ i, τ (b + 7) i = σ (b + 7) i) (hs : τ 1 2 = σ 1 2) (q : zs_I1 t n v m Z σ b x) : zs_I2 t n v m Z τ b := by
  obtain ⟨G, r, q, p⟩ := q
  have lv := r.2.2.2.1 (σ b 9) h0 (by omega)
  have hg : G 29 (σ b 9) < 0 := by
    by_cases c : G 29 (σ b 9) < 0
    · exact c
    · have l2 := (lv.2 (by omega)).1
      have l3 := zt_sn_b (σ (b + 7) (σ b 9))
      omega
  have eh : zs_hg G (σ b 9) x = zq_up G 29 (σ b 9) x := zs_hg_y x hg
  refine ⟨G, x, ?_, ?_, ?_, ?_⟩
  · rw [h9, eh]
    refine ⟨?_, ?_, ?_, fun e e0 e1 => ?_, fun i i0 i1 => ?_⟩
    · rw [zq_up_ne (by omega), h.1]; exact r.1
    · rw [zq_up_ne (by omega), h.2.1]; exact r.2.1
    · rw [zq_up_ne (by omega), hs]; exact r.2.2.1
    · exact zs_lv_fr (hA e (by omega)) (hB e) ⟨zq_up_ne (by omega), zq_up_ne (by omega)⟩ (r.2.2.2.1 e e0 (by omega))
    · rw [zq_up_ne (by omega)] at i1
      exact zs_nd_fr h (fun a a0 a1 => zq_up_ne (by omega)) (r.2.2.2.2 i i0 i1)
  · rw [h9, eh, zq_up_same, hx]
  · rw [h9, eh]
    exact zx_QC_put (σ := G) h0 hg (fun i => zq_up_ne (by omega)) (fun i => zq_up_ne (by omega)) (fun i => zq_up_ne (by omega)) (zq_up_ne (by omega)) (zq_up_ne (by omega)) (fun i hi => zq_up_ne (by omega)) (zq_up_same _ _ _ _) q
  · rw [h9]; exact p
theorem zs_I1_pre {x : Int} (h0 : 0 ≤ σ b 9) (hz : σ (b + 7) (σ b 9) ≠ 0) (h20 : σ b 6 ≤ 20) (q : zs_I1 t n v m Z σ b x) : σ b 5 < 39 := by
  obtain ⟨G, r, q, p⟩ := q
  have lv := r.2.2.2.1 (σ b 9) h0 (by omega)
  have hg : 0 ≤ G 29 (σ b 9) := by
    by_cases c : G 29 (σ b 9) < 0
    · exact absurd (lv.1 c) hz
    · omega
  have q2 := zx_QB_pre h0 hg q
  have r1 := r.1
  have r2 := r.2.1
  omega
theorem zs_I1_add {x : Int} (h0 : 0 ≤ σ b 9) (hz : σ (b + 7) (σ b 9) ≠ 0) (h6 : τ b 6 = σ b 6) (h9 : τ b 9 = σ b 9) (hc : zs_ca σ τ b (σ (b + 7) (σ b 9)) 0 (σ (b + 6) (σ b 9)) x) (hA : ∀ i, i ≠ σ b 9 → τ (b + 6) i = σ (b + 6) i) (hx : τ (b + 6) (σ b 9) = σ b 5) (hB : ∀ i, τ (b + 7) i = σ (b + 7) i) (hs : τ 1 2 = σ 1 2) (q : zs_I1 t n v m Z σ b x) : zs_I2 t n v m Z τ b := by
  obtain ⟨G, r, q, p⟩ := q
  have r1 := r.1
  have lv := r.2.2.2.1 (σ b 9) h0 (by omega)
  have hg : ¬ G 29 (σ b 9) < 0 := fun c => hz (lv.1 c)
  obtain ⟨l1, l2, l3⟩ := lv.2 (by omega)
  have eh : zs_hg G (σ b 9) x = zq_up (zs_add G 2 (G 30 (σ b 9)) (G 29 (σ b 9)) x) 29 (σ b 9) (G 0 43) := zs_hg_n x hg
  have c1 := hc.2.1
  have c3 := hc.2.2.2.1
  have c4 := hc.2.2.2.2.1
  refine ⟨G, x, ?_, ?_, ?_, ?_⟩
  · rw [h9, eh]
    refine ⟨?_, ?_, ?_, fun e e0 e1 => ?_, fun i i0 i1 => ?_⟩
    · rw [zq_up_ne (by omega), zs_add_n, hc.1, r1]
    · rw [zq_up_ne (by omega), zs_add_o (by omega) (by omega), h6]; exact r.2.1
    · rw [zq_up_ne (by omega), zs_add_o (by omega) (by omega), hs]; exact r.2.2.1
    · exact zs_lv_fr (hA e (by omega)) (hB e) ⟨by rw [zq_up_ne (by omega), zs_add_o (by omega) (by omega)], by rw [zq_up_ne (by omega), zs_add_o (by omega) (by omega)]⟩ (r.2.2.2.1 e e0 (by omega))
    · rw [zq_up_ne (by omega), zs_add_n] at i1
      by_cases hi : i = σ b 5
      · have k25 : zq_up (zs_add G 2 (G 30 (σ b 9)) (G 29 (σ b 9)) x) 29 (σ b 9) (G 0 43) 25 (G 0 43) = 2 := by rw [zq_up_ne (by omega), zs_add_25]
        have k26 : zq_up (zs_add G 2 (G 30 (σ b 9)) (G 29 (σ b 9)) x) 29 (σ b 9) (G 0 43) 26 (G 0 43) = G 30 (σ b 9) := by rw [zq_up_ne (by omega), zs_add_26]
        have k27 : zq_up (zs_add G 2 (G 30 (σ b 9)) (G 29 (σ b 9)) x) 29 (σ b 9) (G 0 43) 27 (G 0 43) = G 29 (σ b 9) := by rw [zq_up_ne (by omega), zs_add_27]
        have k28 : zq_up (zs_add G 2 (G 30 (σ b 9)) (G 29 (σ b 9)) x) 29 (σ b 9) (G 0 43) 28 (G 0 43) = x := by rw [zq_up_ne (by omega), zs_add_28]
        rw [r1] at c1 c3 c4
        rw [hi, r1]
        unfold zs_nd
        rw [k25, k26, k27, k28, c1, c3, c4]
        exact ⟨fun z => absurd z (by omega), fun z => absurd z (by omega), fun _ => ⟨l2, by omega, l3, rfl⟩, by omega, by omega⟩
      · exact zs_nd_ca hc hi (fun a a0 a1 => by rw [zq_up_ne (by omega), zs_add_e (by omega) a0]) (r.2.2.2.2 i i0 (by omega))
  · rw [h9, eh, zq_up_same, hx]; exact r1
  · rw [h9, eh]
    exact zx_QC_add (σ := G) (ρ := zs_add G 2 (G 30 (σ b 9)) (G 29 (σ b 9)) x) h0 (by omega) (fun i hi => zs_add_e hi (by omega)) (fun i hi => zs_add_e hi (by omega)) (fun i hi => zs_add_e hi (by omega)) (fun i => zs_add_o (by omega) (by omega)) (zs_add_25 _ _ _ _ _) (zs_add_27 _ _ _ _ _) (zs_add_28 _ _ _ _ _) (zs_add_n _ _ _ _ _) (zs_add_o (by omega) (by omega)) rfl q
  · rw [h9]; exact p
theorem zs_I2_sg (h0 : 0 ≤ σ b 9) (hc : 0 < zt_sn (zt_nx t n (σ 1 2))) (h : zs_sm σ τ b) (h9 : τ b 9 = σ b 9) (hA : ∀ i, τ (b + 6) i = σ (b + 6) i) (hB : ∀ i, i ≠ σ b 9 → τ (b + 7) i = σ (b + 7) i) (hx : τ (b + 7) (σ b 9) = zt_nx t n (σ 1 2)) (hp : τ 1 2 = zt_sk t n (σ 1 2) + 1) (q : zs_I2 t n v m Z σ b) : zs_I0 t n v m Z τ b := by
  obtain ⟨G, x, r, e6, q, p⟩ := q
  have s1 := r.2.2.1
  rw [zs_hg_p] at s1
  have hn := zt_nx_c s1
  have ge : ∀ a i, ¬ (a = 0 ∧ i = 15) → ¬ (a = 30 ∧ i = σ b 9) → zs_sg t n G (σ b 9) x a i = zs_hg G (σ b 9) x a i := fun a i h1 h2 => by unfold zs_sg; rw [zq_up_ne h2, zq_up_ne h1]
  have g30 : zs_sg t n G (σ b 9) x 30 (σ b 9) = zt_sn (zt_nx t n (G 0 15)) := by unfold zs_sg; rw [zq_up_same]
  have q1 := q.1
  have q2 := q.2.1
  refine ⟨zs_sg t n G (σ b 9) x, ⟨?_, ?_, ?_, fun e e0 e1 => ?_, fun i i0 i1 => ?_⟩, ?_, ?_⟩
  · rw [ge 0 43 (by omega) (by omega), h.1]; exact r.1
  · rw [ge 0 44 (by omega) (by omega), h.2.1]; exact r.2.1
  · rw [zs_sg_p, hp, s1]
  · by_cases hc2 : e = σ b 9
    · have g29 := ge 29 (σ b 9) (by omega) (by omega)
      rw [hc2]
      exact ⟨fun z => absurd z (by omega), fun _ => ⟨by rw [hx]; exact hc, by rw [hx, g30, hn], by rw [hA, e6, g29]⟩⟩
    · exact zs_lv_fr (hA e) (hB e hc2) ⟨ge 29 e (by omega) (by omega), ge 30 e (by omega) (by omega)⟩ (r.2.2.2.1 e e0 (by omega))
  · rw [ge 0 43 (by omega) (by omega)] at i1
    exact zs_nd_fr h (fun a a0 a1 => ge a i (by omega) (by omega)) (r.2.2.2.2 i i0 i1)
  · rw [h9]
    exact zx_QA_fr (σ := zs_hg G (σ b 9) x) ⟨fun i => ge 25 i (by omega) (by omega), fun i => ge 27 i (by omega) (by omega), fun i => ge 28 i (by omega) (by omega), fun i => ge 29 i (by omega) (by omega), ge 0 43 (by omega) (by omega), ge 0 44 (by omega) (by omega)⟩ (zx_QC_A h0 q)
  · rw [h9]
    exact zs_P_sg p (by rw [← hn]; exact hc) (zs_q_rf _) (by rw [zs_sg_p])
theorem zs_I2_cl (h0 : 0 < σ b 9) (hc : zt_nx t n (σ 1 2) = 41) (h : zs_sm σ τ b) (h9 : τ b 9 = σ b 9 - 1) (hA : ∀ i, τ (b + 6) i = σ (b + 6) i) (hB : ∀ i, τ (b + 7) i = σ (b + 7) i) (hp : τ 1 2 = zt_sk t n (σ 1 2) + 1) (q : zs_I2 t n v m Z σ b) : zs_I1 t n v m Z τ b (σ (b + 6) (σ b 9)) := by
  obtain ⟨G, x, r, e6, q, p⟩ := q
  have s1 := r.2.2.1
  rw [zs_hg_p] at s1
  have hn := zt_nx_c s1
  have ge : ∀ a i, ¬ (a = 0 ∧ i = 15) → zs_cl t n G (σ b 9) x a i = zs_hg G (σ b 9) x a i := fun a i h1 => by unfold zs_cl; rw [zq_up_ne h1]
  refine ⟨zs_cl t n G (σ b 9) x, ⟨?_, ?_, ?_, fun e e0 e1 => ?_, fun i i0 i1 => ?_⟩, ?_, ?_⟩
  · rw [ge 0 43 (by omega), h.1]; exact r.1
  · rw [ge 0 44 (by omega), h.2.1]; exact r.2.1
  · rw [zs_cl_p, hp, s1]
  · exact zs_lv_fr (hA e) (hB e) ⟨ge 29 e (by omega), ge 30 e (by omega)⟩ (r.2.2.2.1 e e0 (by omega))
  · rw [ge 0 43 (by omega)] at i1
    exact zs_nd_fr h (fun a a0 a1 => ge a i (by omega)) (r.2.2.2.2 i i0 i1)
  · rw [h9, e6, ← ge 29 (σ b 9) (by omega)]
    exact zx_QC_close h0 (zx_QC_fr (σ := zs_hg G (σ b 9) x) ⟨fun i => ge 25 i (by omega), fun i => ge 27 i (by omega), fun i => ge 28 i (by omega), fun i => ge 29 i (by omega), ge 0 43 (by omega), ge 0 44 (by omega)⟩ q)
  · rw [h9, e6]
    exact zs_P_cl p (by rw [← hn]; exact hc) h0 (zs_q_rf _) (by rw [zs_cl_p])
theorem zs_I2_en (hc : zt_sn (zt_nx t n (σ 1 2)) = 0) (hd : ¬ (zt_nx t n (σ 1 2) = 41 ∧ 0 < σ b 9)) (q : zs_I2 t n v m Z σ b) : Z.1 = (if zt_nx t n (σ 1 2) = -1 ∧ σ b 9 = 0 then 1 else 0) ∧ Z.2 0 15 = zt_sk t n (σ 1 2) ∧ σ b 5 = Z.2 0 43 ∧ σ b 6 = Z.2 0 44 ∧ ∀ i, 0 ≤ i → i < σ b 5 → zs_nd σ b Z.2 i := by
  obtain ⟨G, x, r, e6, q, p⟩ := q
  have s1 := r.2.2.1
  rw [zs_hg_p] at s1
  have hn := zt_nx_c s1
  rw [hn] at hc hd
  obtain ⟨z1, z2, z3⟩ := zs_P_en p hc hd
  rw [hn, s1]
  exact ⟨z1, z2, by rw [zs_q_43 z3]; exact r.1, by rw [zs_q_44 z3]; exact r.2.1, fun i i0 i1 => zs_nd_fr (zs_sm_rf σ b) (fun a a0 a1 => zs_q_ar z3 ⟨a0, by omega⟩ i) (r.2.2.2.2 i i0 (by rw [← r.1]; exact i1))⟩
theorem zs_ca_fr {ρ : zq_S} {K W L R : Int} (h : zs_ca σ ρ b K W L R) (s : zs_sm ρ τ b) : zs_ca σ τ b K W L R := by
  obtain ⟨s5, s6, s1, s2, s3, s4⟩ := s
  unfold zs_ca
  rw [s5, show τ (b + 1) = ρ (b + 1) from funext s1, show τ (b + 2) = ρ (b + 2) from funext s2, show τ (b + 3) = ρ (b + 3) from funext s3, show τ (b + 4) = ρ (b + 4) from funext s4]
  exact h
theorem zs_ca_of {ρ : zq_S} {K W L R : Int} (s5 : ρ b 5 = σ b 5) (s1 : ∀ i, ρ (b + 1) i = σ (b + 1) i) (s2 : ∀ i, ρ (b + 2) i = σ (b + 2) i) (s3 : ∀ i, ρ (b + 3) i = σ (b + 3) i) (s4 : ∀ i, ρ (b + 4) i = σ (b + 4) i) (h : zs_ca ρ τ b K W L R) : zs_ca σ τ b K W L R := by
  unfold zs_ca at h
  rw [s5, show ρ (b + 1) = σ (b + 1) from funext s1, show ρ (b + 2) = σ (b + 2) from funext s2, show ρ (b + 3) = σ (b + 3) from funext s3, show ρ (b + 4) = σ (b + 4) from funext s4] at h
  exact h
theorem zs_I0_pre (hl : σ b 6 < 20) (q : zs_I0 t n v m Z σ b) : σ b 5 < 39 := by
  obtain ⟨G, r, q, p⟩ := q
  have q2 := zx_QA_pre q
  have r1 := r.1
  have r2 := r.2.1
  omega
end ZSC
theorem zs_rn_all {p : Int → Bool} {n : Int} : ∀ (k : Nat) (a i : Int), n - a ≤ (k : Int) → a ≤ i → i < zt_rn p n a → p i = true := by
  intro k
  induction k with
  | zero =>
    intro a i h h1 h2
    have e : zt_rn p n a = a := zt_rn_n (fun q => absurd q.1 (by omega))
    omega
  | succ k ih =>
    intro a i h h1 h2
    by_cases c : a < n ∧ p a = true
    · rw [zt_rn_y c] at h2
      by_cases e : i = a
      · rw [e]; exact c.2
      · exact ih (a + 1) i (by omega) (by omega) h2
    · rw [zt_rn_n c] at h2
      omega
theorem zs_dvF_nn {t : Int → Int} {s : Int} : ∀ k : Nat, (∀ i, s ≤ i → i < s + (k : Int) → 48 ≤ t i) → 0 ≤ zt_dvF t s k := by
  intro k
  induction k with
  | zero => intro _; exact Int.le_refl 0
  | succ k ih =>
    intro h
    have h1 := ih (fun i a b => h i a (by omega))
    have h2 := h (s + (k : Int)) (by omega) (by omega)
    show 0 ≤ 10 * zt_dvF t s k + (t (s + (k : Int)) - 48)
    omega
theorem zs_dv_b {t : Int → Int} {n a : Int} (ha : zt_sk t n a ≤ n) : 0 ≤ zt_dv t (zt_sk t n a) (zt_de t n (zt_sk t n a)) := by
  have b : zt_sk t n a ≤ zt_de t n (zt_sk t n a) ∧ zt_de t n (zt_sk t n a) ≤ n := zt_rn_b (p := fun i => decide (48 ≤ t i ∧ t i ≤ 57)) ha
  refine zs_dvF_nn _ (fun i h1 h2 => ?_)
  have c : (fun i => decide (48 ≤ t i ∧ t i ≤ 57)) i = true := zs_rn_all (n - zt_sk t n a).toNat (zt_sk t n a) i (by omega) h1 (show i < zt_de t n (zt_sk t n a) by omega)
  exact (of_decide_eq_true c).1
def zs_M0 (t : Int → Int) (n : Int) (σ τ : zq_S) (b : Int) : Prop := ∀ v m Z, zs_I0 t n v m Z σ b → zs_I0 t n v m Z τ b
def zs_F0 (t : Int → Int) (n : Int) (σ τ : zq_S) (b : Int) : Prop := ∀ v m Z, zs_I0 t n v m Z σ b → Z.1 = 0 ∧ Z.2 0 15 = τ 1 2
def zs_M1 (t : Int → Int) (n : Int) (σ τ : zq_S) (b x : Int) : Prop := ∀ v m Z, zs_I1 t n v m Z σ b x → zs_I2 t n v m Z τ b
def zs_M2 (t : Int → Int) (n : Int) (σ τ : zq_S) (b : Int) : Prop := ∀ v m Z, zs_I2 t n v m Z σ b → zs_I2 t n v m Z τ b
def zs_L1 (t : Int → Int) (n v m : Int) (σ τ : zq_S) (b r : Int) : Prop := zt_nx t n (σ 1 2) ≠ 40 → ∀ Z, zs_I0 t n v m Z σ b → (0 ≤ r → zs_I1 t n v m Z τ b r ∧ τ b 6 = σ b 6 + 1) ∧ (r < 0 → Z.1 = 0 ∧ Z.2 0 15 = τ 1 2)
def zs_J (t : Int → Int) (n v m : Int) (σ : zq_S) (b : Int) : Prop := ∀ G, zs_I0 t n v m (zs_run t n v m 100 0 0 0 (zs_0 G)) σ b
/-- what a reading ends with -/
def zs_E (t : Int → Int) (n v m r : Int) (τ : zq_S) (b : Int) : Prop := ∀ G, r = (zs_run t n v m 100 0 0 0 (zs_0 G)).1 ∧ τ 1 2 = (zs_run t n v m 100 0 0 0 (zs_0 G)).2 0 15 ∧ (r = 1 → τ b 5 = (zs_run t n v m 100 0 0 0 (zs_0 G)).2 0 43 ∧ τ b 6 = (zs_run t n v m 100 0 0 0 (zs_0 G)).2 0 44 ∧ ∀ i, 0 ≤ i → i < τ b 5 → zs_nd τ b (zs_run t n v m 100 0 0 0 (zs_0 G)).2 i)
theorem zs_E_no {t : Int → Int} {n v m b : Int} {τ : zq_S} (h : ∀ G, (zs_run t n v m 100 0 0 0 (zs_0 G)).1 = 0 ∧ (zs_run t n v m 100 0 0 0 (zs_0 G)).2 0 15 = τ 1 2) : zs_E t n v m 0 τ b := fun G => ⟨(h G).1.symm, (h G).2.symm, fun q => absurd q (by omega)⟩
theorem zs_E_en {t : Int → Int} {n v m b r : Int} {σ τ : zq_S} (hs : zs_sm σ τ b) (h9 : τ b 9 = σ b 9) (hp : τ 1 2 = zt_sk t n (σ 1 2)) (hc : zt_sn (zt_nx t n (σ 1 2)) = 0) (hd : ¬ (zt_nx t n (σ 1 2) = 41 ∧ 0 < σ b 9)) (hr : r = if zt_nx t n (σ 1 2) = -1 ∧ σ b 9 = 0 then 1 else 0) (q : ∀ G, zs_I2 t n v m (zs_run t n v m 100 0 0 0 (zs_0 G)) σ b) : zs_E t n v m r τ b := fun G => by
  obtain ⟨z1, z2, z3, z4, z5⟩ := zs_I2_en hc hd (q G)
  exact ⟨hr.trans z1.symm, hp.trans z2.symm, fun _ => ⟨hs.1.trans z3, hs.2.1.trans z4, fun i i0 i1 => zs_nd_fr hs (fun _ _ _ => rfl) (z5 i i0 (by rw [← hs.1]; exact i1))⟩⟩
/-! ===== sums: as the reference reads them ===== -/
theorem zs_nu_no {t : Int → Int} {n m a : Int} (h : zt_nuR t n m a < 0) : zt_nuA t n m a = zt_sk t n a := by
  by_cases c : 48 ≤ zt_nx t n a ∧ zt_nx t n a ≤ 57 ∧ zt_dv t (zt_sk t n a) (zt_de t n (zt_sk t n a)) ≤ m
  · have y := (zt_nu_y c).1
    have z := zt_nx_in (t := t) (n := n) (a := a) (by omega)
    have w := zs_dv_b (t := t) (n := n) (a := a) (by omega)
    omega
  · exact (zt_nu_n c).2
theorem zs_P_fr {t : Int → Int} {n v m ph d x : Int} {G G' : zq_S} {Z : Int × zq_S} (h : zs_P t n v m ph d x G Z) (hq : zs_q G' G) (hs : zt_sk t n (G' 0 15) = zt_sk t n (G 0 15)) : zs_P t n v m ph d x G' Z := by
  obtain ⟨k, H, a, b, c⟩ := h
  exact ⟨k, H, zs_q_tr hq a, hs.trans b, c⟩
theorem zs_0_15 (G : zq_S) : zs_0 G 0 15 = 0 := by unfold zs_0; rw [zq_up_ne (by omega), zq_up_ne (by omega), zq_up_ne (by omega), zq_up_same]
def zs_Lr (t : Int → Int) (n v m : Int) (σ τ : zq_S) (r : Int) : Prop := zt_nx t n (σ 0 15) ≠ 40 → ∀ d x Z, zs_P t n v m 0 d x σ Z → (0 ≤ r → zs_P t n v m 1 d r τ Z) ∧ (r < 0 → Z.1 = 0 ∧ Z.2 0 15 = τ 0 15)
def zs_Er (t : Int → Int) (n v m r : Int) (σ τ : zq_S) : Prop := r = (zs_run t n v m 100 0 0 0 (zs_0 σ)).1 ∧ τ 0 15 = (zs_run t n v m 100 0 0 0 (zs_0 σ)).2 0 15 ∧ (r = 1 → zs_q (zs_run t n v m 100 0 0 0 (zs_0 σ)).2 τ)
theorem zs_sk_ge (t : Int → Int) (n a : Int) : a ≤ zt_sk t n a := by
  by_cases c : a ≤ n
  · exact (zt_sk_b c).1
  · rw [zt_sk_n (fun q => absurd q.1 (by omega))]
    exact Int.le_refl a
theorem zs_nu_ge (t : Int → Int) (n m a : Int) : a ≤ zt_nuA t n m a ∧ (0 ≤ zt_nuR t n m a → a < zt_nuA t n m a) := by
  have g := zs_sk_ge t n a
  by_cases c : 48 ≤ zt_nx t n a ∧ zt_nx t n a ≤ 57 ∧ zt_dv t (zt_sk t n a) (zt_de t n (zt_sk t n a)) ≤ m
  · have z := zt_nx_in (t := t) (n := n) (a := a) (by omega)
    have w := zs_dv_b (t := t) (n := n) (a := a) (by omega)
    have y := (zt_nu_y c).1
    have v := zt_nu_adv (t := t) (n := n) (m := m) (a := a) (by omega) (by omega)
    exact ⟨by omega, fun _ => v.1⟩
  · have y := zt_nu_n c
    exact ⟨by omega, fun h => absurd h (by omega)⟩
theorem zs_nx_ge {t : Int → Int} {n a : Int} (h : ∀ i, 0 ≤ i → i < n → 0 ≤ t i) (ha : 0 ≤ a) : -1 ≤ zt_nx t n a := by
  have g := zs_sk_ge t n a
  by_cases c : zt_sk t n a < n
  · rw [zt_nx_y c]
    have := h (zt_sk t n a) (by omega) c
    omega
  · rw [zt_nx_n c]
    omega

