/-! ===== prices: the class's costs, and the model's ===== -/
def zp_e (x y : Int) : Prop := (y < 0 → x = 1000000) ∧ (0 ≤ y → x = y ∧ y < 1000000)
def zp_mn (x : Int) : Int := if x < 1000000 then x else 1000000
/-- the class's cost: form, ticks, sides' prices, sides' kinds, the right word, room, a MOVE's ticks -/
def zp_kc (F T PL PR KL KR WR P mt : Int) : Int :=
  if F = 3 ∨ F = 5 then zp_mn (T + PL + PR + (if (F = 5 ∨ F = 6) ∧ KL = 1 then mt else 0))
  else if KR = 2 ∧ WR < P then zp_mn (T + PL + (if (F = 5 ∨ F = 6) ∧ KL = 1 then mt else 0)) else 1000000
def zp_cs (σ : zq_S) (t node mt o : Int) : Int :=
  if 3 ≤ σ (σ 10 o) 14 ∧ σ (σ 10 o + 4) 0 = σ (t + 1) node then zp_kc (σ (σ 10 o) 14) (σ (σ 10 o) 11) (σ 272 (σ (t + 3) node)) (σ 272 (σ (t + 4) node)) (σ (t + 1) (σ (t + 3) node)) (σ (t + 1) (σ (t + 4) node)) (σ (t + 2) (σ (t + 4) node)) (zx_p2 (zt_bc (σ (σ 10 o + 1) 3))) mt else 1000000
def zp_fF (c : Int → Int) : Nat → Int × Int
  | 0 => (1000000, -1)
  | k + 1 => if c k < (zp_fF c k).1 then (c k, (k : Int)) else zp_fF c k
def zp_f (c : Int → Int) (k : Int) : Int × Int := zp_fF c k.toNat
theorem zp_f_e (c : Int → Int) {k : Int} (h : 0 ≤ k) : zp_f c (k + 1) = if c k < (zp_f c k).1 then (c k, k) else zp_f c k := by
  obtain ⟨j, rfl⟩ := Int.eq_ofNat_of_zero_le h
  rfl
theorem zp_f_y {c : Int → Int} {k : Int} (h : 0 ≤ k) (hc : c k < (zp_f c k).1) : zp_f c (k + 1) = (c k, k) := by rw [zp_f_e c h, if_pos hc]
theorem zp_f_n {c : Int → Int} {k : Int} (h : 0 ≤ k) (hc : ¬ c k < (zp_f c k).1) : zp_f c (k + 1) = zp_f c k := by rw [zp_f_e c h, if_neg hc]
theorem zp_f_bF {c d : Int → Int} : ∀ k : Nat, (∀ o : Int, 0 ≤ o → o < k → zp_e (c o) (d o)) → zp_e (zp_fF c k).1 (zp_bF d k).1 ∧ (zp_fF c k).2 = (zp_bF d k).2 := by
  intro k
  induction k with
  | zero => intro _; exact ⟨⟨fun _ => rfl, fun h => absurd h (show ¬ (0 : Int) ≤ -1 by omega)⟩, rfl⟩
  | succ k ih =>
    intro h
    obtain ⟨i1, i2⟩ := ih (fun o o0 o1 => h o o0 (by omega))
    obtain ⟨e1, e2⟩ := h k (by omega) (by omega)
    obtain ⟨j1, j2⟩ := i1
    show zp_e (if c k < (zp_fF c k).1 then (c k, (k : Int)) else zp_fF c k).1 (if 0 ≤ d k ∧ ((zp_bF d k).1 < 0 ∨ d k < (zp_bF d k).1) then (d k, (k : Int)) else zp_bF d k).1 ∧ (if c k < (zp_fF c k).1 then (c k, (k : Int)) else zp_fF c k).2 = (if 0 ≤ d k ∧ ((zp_bF d k).1 < 0 ∨ d k < (zp_bF d k).1) then (d k, (k : Int)) else zp_bF d k).2
    by_cases hc : c k < (zp_fF c k).1
    · have hd : 0 ≤ d k ∧ ((zp_bF d k).1 < 0 ∨ d k < (zp_bF d k).1) := by omega
      rw [if_pos hc, if_pos hd]
      exact ⟨⟨fun q => absurd q (show ¬ d k < 0 by omega), fun _ => e2 hd.1⟩, rfl⟩
    · have hd : ¬ (0 ≤ d k ∧ ((zp_bF d k).1 < 0 ∨ d k < (zp_bF d k).1)) := by omega
      rw [if_neg hc, if_neg hd]
      exact ⟨⟨j1, j2⟩, i2⟩
theorem zp_f_b {c d : Int → Int} {k : Int} (h : ∀ o : Int, 0 ≤ o → o < k → zp_e (c o) (d o)) : zp_e (zp_f c k).1 (zp_b d k).1 ∧ (zp_f c k).2 = (zp_b d k).2 := zp_f_bF k.toNat (fun o o0 o1 => h o o0 (by omega))
theorem zx_form_b (ρ : zq_S) (o : Int) : 0 ≤ zx_form ρ o ∧ zx_form ρ o ≤ 6 := by
  unfold zx_form
  repeat' split
  all_goals omega
theorem zt_sn_j {x y : Int} (h : zt_sn x = zt_sn y) (h0 : zt_sn x ≠ 0) : x = y := by
  unfold zt_sn at h h0
  repeat' split at h
  all_goals first
    | omega
    | (repeat' split at h0
       all_goals omega)
/-- what prices rest on, alike: ORDERS and the sum -/
def zp_W (σ D : zq_S) (t : Int) : Prop := zp_T σ D ∧ (∃ f, zx_tree (D 21) (D 23) (D 24) f (D 0 37)) ∧ (∀ o, 0 ≤ D 7 o ∧ D 7 o ≤ 1000) ∧ (∀ i, 0 ≤ D 21 i ∧ D 21 i ≤ 2) ∧ (∀ i, 0 ≤ D 22 i ∧ D 22 i ≤ 255) ∧ (σ t 5 = D 0 37 ∧ 1 ≤ D 0 37 ∧ D 0 37 ≤ 39) ∧ (∀ o, 0 ≤ o → o < σ 3 3 → zt_bc (σ (σ 10 o + 1) 3) ≤ 12) ∧ (∀ i, 0 ≤ i → i < D 0 37 → zs_nd σ t (zs_rt D) i)
section ZPW
variable {σ D : zq_S} {t : Int}
/-- a node's kind, word and sides, alike -/
theorem zp_W_nd (h : zp_W σ D t) {i : Int} (i0 : 0 ≤ i) (i1 : i < D 0 37) : (σ (t + 1) i = 1 ↔ D 21 i = 0) ∧ (σ (t + 1) i = 2 ↔ D 21 i = 1) ∧ (D 21 i ≠ 2 → σ (t + 2) i = D 22 i) ∧ (D 21 i = 2 → zt_sn (σ (t + 1) i) = D 22 i ∧ 0 < D 22 i ∧ σ (t + 3) i = D 23 i ∧ σ (t + 4) i = D 24 i) := by
  have q := h.2.2.2.2.2.2.2 i i0 i1
  unfold zs_nd at q
  rw [zs_rt_25, zs_rt_26, zs_rt_27, zs_rt_28] at q
  obtain ⟨q0, q1, q2, q3, q4⟩ := q
  have sn := zt_sn_b (σ (t + 1) i)
  rcases (show D 21 i = 0 ∨ D 21 i = 1 ∨ D 21 i = 2 by omega) with e | e | e
  · obtain ⟨a, b⟩ := q0 e
    exact ⟨by omega, by omega, fun _ => b, fun z => absurd z (by omega)⟩
  · obtain ⟨a, b⟩ := q1 e
    exact ⟨by omega, by omega, fun _ => b, fun z => absurd z (by omega)⟩
  · have z := q2 e
    exact ⟨by omega, by omega, fun z => absurd e z, fun _ => z⟩
theorem zp_W_tr (h : zp_W σ D t) {i : Int} (i0 : 0 ≤ i) (i1 : i < D 0 37) (e : D 21 i = 2) : 0 ≤ D 23 i ∧ D 23 i < i ∧ 0 ≤ D 24 i ∧ D 24 i < i := by
  obtain ⟨f, hf⟩ := h.2.1
  have z := (hf i i0 i1).2.2.1 e
  omega
theorem zp_W_bd (h : zp_W σ D t) (mv : Int) {n : Int} (n1 : n ≤ D 0 37) {j : Int} (j0 : 0 ≤ j) (j1 : j < n) : -1 ≤ (zp_pr D mv n j).1 ∧ (zp_pr D mv n j).1 ≤ 80000 := by
  obtain ⟨f, hf⟩ := h.2.1
  have z := zp_pr_bd (mv := mv) hf h.2.2.1 h.2.2.2.1 n.toNat (by omega) j j0 (by omega)
  rw [show ((n.toNat : Nat) : Int) = n by omega] at z
  have t1 := hf j j0 (by omega)
  have n39 := h.2.2.2.2.2.1.2.2
  omega
theorem zp_cs_e (h : zp_W σ D t) {node mt mv o : Int} {p : Int → Int} (o0 : 0 ≤ o) (o1 : o < σ 3 3) (n0 : 0 ≤ node) (n1 : node < D 0 37) (h2 : D 21 node = 2) (pl : zp_e (σ 272 (D 23 node)) (p (D 23 node))) (pr : zp_e (σ 272 (D 24 node)) (p (D 24 node))) (bl : -1 ≤ p (D 23 node) ∧ p (D 23 node) ≤ 80000) (br : -1 ≤ p (D 24 node) ∧ p (D 24 node) ≤ 80000) (hm : (mv < 0 → mt = 1000000) ∧ (0 ≤ mv → mt = D 7 mv)) : zp_e (zp_cs σ t node mt o) (zp_c D p mv o node) := by
  obtain ⟨hf, ht, hs, hb, t0, t1⟩ := h.1.2 o o0 o1
  have hbc := h.2.2.2.2.2.2.1 o o0 o1
  have hbb := zt_bc_b (σ (σ 10 o + 1) 3)
  obtain ⟨s1, s2, s3, s4⟩ := zp_W_tr h n0 n1 h2
  obtain ⟨nn1, nn2, nn3, nn4⟩ := zp_W_nd h n0 n1
  obtain ⟨m1, m2, m3, m4⟩ := nn4 h2
  obtain ⟨l1, l2, l3, l4⟩ := zp_W_nd h s1 (show D 23 node < D 0 37 by omega)
  obtain ⟨r1, r2, r3, r4⟩ := zp_W_nd h s3 (show D 24 node < D 0 37 by omega)
  have fb := zx_form_b D o
  have g22 := h.2.2.2.2.1 (D 24 node)
  have g7 := h.2.2.1 mv
  obtain ⟨pl1, pl2⟩ := pl
  obtain ⟨pr1, pr2⟩ := pr
  obtain ⟨hm1, hm2⟩ := hm
  have hn1 : ¬ D 21 node = 1 := by omega
  unfold zp_cs
  rw [m3, m4]
  by_cases hc : 3 ≤ zx_form D o ∧ D 6 (18 * o + 3) = D 22 node
  · have es : σ (σ 10 o + 4) 0 = σ (t + 1) node := zt_sn_j (by rw [hs hc.1, m1]; exact hc.2) (by rw [hs hc.1]; omega)
    rw [if_pos ⟨by omega, es⟩, hf]
    have lit : zp_lit D o = true ↔ (zx_form D o = 4 ∨ zx_form D o = 6) := ⟨fun q => of_decide_eq_true q, fun q => decide_eq_true q⟩
    have ipv : zp_ipv D o node = true ↔ (5 ≤ zx_form D o ∧ D 21 (D 23 node) = 0) := ⟨fun q => of_decide_eq_true q, fun q => decide_eq_true q⟩
    have rm : zp_rm D o (D 24 node) = true ↔ (σ (t + 1) (D 24 node) = 2 ∧ σ (t + 2) (D 24 node) < zx_p2 (zt_bc (σ (σ 10 o + 1) 3))) := by
      constructor
      · intro q
        obtain ⟨a, b⟩ := of_decide_eq_true q
        rw [← hb] at b
        have c := (zp_shr0 ⟨g22.1, g22.2⟩ ⟨hbb.1, hbc⟩).mp b
        exact ⟨r2.mpr a, by rw [r3 (by omega)]; exact c⟩
      · rintro ⟨a, b⟩
        have a' := r2.mp a
        rw [r3 (by omega)] at b
        exact decide_eq_true ⟨a', by rw [← hb]; exact (zp_shr0 ⟨g22.1, g22.2⟩ ⟨hbb.1, hbc⟩).mpr b⟩
    by_cases hl : p (D 23 node) < 0
    · rw [zp_c_l hn1 hc hl]
      refine ⟨fun _ => ?_, fun z => absurd z (by omega)⟩
      have a := pl1 hl
      by_cases c3 : p (D 24 node) < 0
      · have b := pr1 c3
        unfold zp_kc zp_mn
        repeat' split
        all_goals omega
      · have b := pr2 (by omega)
        unfold zp_kc zp_mn
        repeat' split
        all_goals omega
    · have a := pl2 (by omega)
      by_cases hr : (zp_lit D o = true ∧ ¬ zp_rm D o (D 24 node) = true) ∨ (¬ zp_lit D o = true ∧ p (D 24 node) < 0)
      · rw [zp_c_r hn1 hc hl hr]
        refine ⟨fun _ => ?_, fun z => absurd z (by omega)⟩
        rw [lit, rm] at hr
        rcases hr with ⟨c1, c2⟩ | ⟨c1, c2⟩
        · unfold zp_kc
          rw [if_neg (show ¬ (zx_form D o = 3 ∨ zx_form D o = 5) by omega), if_neg c2]
        · have b := pr1 c2
          unfold zp_kc zp_mn
          repeat' split
          all_goals omega
      · have pr0 : ¬ zp_lit D o = true → 0 ≤ p (D 24 node) := fun z => by
          by_cases c3 : p (D 24 node) < 0
          · exact absurd (Or.inr ⟨z, c3⟩) hr
          · omega
        have rm0 : zp_lit D o = true → zp_rm D o (D 24 node) = true := fun z => by
          by_cases c3 : zp_rm D o (D 24 node) = true
          · exact c3
          · exact absurd (Or.inl ⟨z, c3⟩) hr
        by_cases hmv : zp_ipv D o node = true ∧ mv < 0
        · rw [zp_c_m hn1 hc hl hr hmv]
          refine ⟨fun _ => ?_, fun z => absurd z (by omega)⟩
          have c := hm1 hmv.2
          have c2 := ipv.mp hmv.1
          have c4 := l1.mpr c2.2
          have b : 0 ≤ σ 272 (D 24 node) ∨ (zx_form D o = 4 ∨ zx_form D o = 6) := by
            by_cases c3 : zp_lit D o = true
            · exact Or.inr (lit.mp c3)
            · have := pr2 (pr0 c3)
              exact Or.inl (by omega)
          unfold zp_kc zp_mn
          repeat' split
          all_goals omega
        · rw [zp_c_y hn1 hc hl hr hmv]
          by_cases c3 : zp_lit D o = true
          · have c4 := lit.mp c3
            have c5 := rm.mp (rm0 c3)
            rw [if_pos c3]
            unfold zp_kc
            rw [if_neg (show ¬ (zx_form D o = 3 ∨ zx_form D o = 5) by omega), if_pos c5]
            by_cases c6 : zp_ipv D o node = true
            · have c7 := ipv.mp c6
              have c8 := l1.mpr c7.2
              have c9 := hm2 (by by_cases z : mv < 0; exact absurd ⟨c6, z⟩ hmv; omega)
              rw [if_pos c6, if_pos ⟨by omega, c8⟩]
              unfold zp_mn
              constructor <;> intro z <;> split <;> omega
            · have c7 : ¬ ((zx_form D o = 5 ∨ zx_form D o = 6) ∧ σ (t + 1) (D 23 node) = 1) := fun z => c6 (ipv.mpr ⟨by omega, l1.mp z.2⟩)
              rw [if_neg c6, if_neg c7]
              unfold zp_mn
              constructor <;> intro z <;> split <;> omega
          · have c4 : zx_form D o = 3 ∨ zx_form D o = 5 := by
              by_cases z : zx_form D o = 4 ∨ zx_form D o = 6
              · exact absurd (lit.mpr z) c3
              · omega
            have b := pr2 (pr0 c3)
            rw [if_neg c3]
            unfold zp_kc
            rw [if_pos c4]
            by_cases c6 : zp_ipv D o node = true
            · have c7 := ipv.mp c6
              have c8 := l1.mpr c7.2
              have c9 := hm2 (by by_cases z : mv < 0; exact absurd ⟨c6, z⟩ hmv; omega)
              rw [if_pos c6, if_pos ⟨by omega, c8⟩]
              unfold zp_mn
              constructor <;> intro z <;> split <;> omega
            · have c7 : ¬ ((zx_form D o = 5 ∨ zx_form D o = 6) ∧ σ (t + 1) (D 23 node) = 1) := fun z => c6 (ipv.mpr ⟨by omega, l1.mp z.2⟩)
              rw [if_neg c6, if_neg c7]
              unfold zp_mn
              constructor <;> intro z <;> split <;> omega
  · have hn : ¬ (3 ≤ σ (σ 10 o) 14 ∧ σ (σ 10 o + 4) 0 = σ (t + 1) node) := fun z => hc ⟨by omega, by rw [← hs (by omega), z.2, m1]⟩
    rw [if_neg hn, zp_c_s hn1 hc]
    exact ⟨fun _ => rfl, fun z => absurd z (by omega)⟩
end ZPW
/-- the first n nodes are priced as the model's -/
def zp_PS (σ τ : zq_S) (t n : Int) : Prop := ∀ D, zp_W σ D t → ∀ j, 0 ≤ j → j < n → zp_e (τ 272 j) (zp_pr D (zx_lm D (D 0 3)) n j).1 ∧ τ 273 j = (zp_pr D (zx_lm D (D 0 3)) n j).2
theorem zp_PS_0 (σ τ : zq_S) (t : Int) : zp_PS σ τ t 0 := fun D _ j j0 j1 => absurd j1 (by omega)
section ZPS
variable {σ τ π : zq_S} {t n : Int}
theorem zp_PS_o (hn : 0 ≤ n) (ho : ∀ j, j ≠ n → π 272 j = τ 272 j ∧ π 273 j = τ 273 j) (h : zp_PS σ τ t n) {D : zq_S} (hD : zp_W σ D t) (hh : zp_e (π 272 n) (zp_pr D (zx_lm D (D 0 3)) (n + 1) n).1 ∧ π 273 n = (zp_pr D (zx_lm D (D 0 3)) (n + 1) n).2) : ∀ j, 0 ≤ j → j < n + 1 → zp_e (π 272 j) (zp_pr D (zx_lm D (D 0 3)) (n + 1) j).1 ∧ π 273 j = (zp_pr D (zx_lm D (D 0 3)) (n + 1) j).2 := fun j j0 j1 => by
  by_cases c : j = n
  · rw [c]; exact hh
  · rw [zp_pr_o hn c, (ho j c).1, (ho j c).2]
    exact h D hD j j0 (by omega)
theorem zp_PS_v (hn : 0 ≤ n) (h1 : n < σ t 5) (hk : σ (t + 1) n = 1) (h2 : π 272 n = 0) (h3 : π 273 n = -1) (ho : ∀ j, j ≠ n → π 272 j = τ 272 j ∧ π 273 j = τ 273 j) (h : zp_PS σ τ t n) : zp_PS σ π t (n + 1) := fun D hD => by
  have n5 := hD.2.2.2.2.2.1.1
  have k := (zp_W_nd hD hn (by omega)).1.mp hk
  refine zp_PS_o hn ho h hD ?_
  rw [zp_pr_v hn k, h2, h3]
  exact ⟨⟨fun z => absurd z (show ¬ (0 : Int) < 0 by omega), fun _ => ⟨rfl, show (0 : Int) < 1000000 by omega⟩⟩, rfl⟩
theorem zp_PS_l (hn : 0 ≤ n) (h1 : n < σ t 5) (hk : σ (t + 1) n = 2) {x : Int} (hx : x < σ 3 3) (hl : zp_LL σ (σ (t + 2) n) x (σ 3 3)) (h2 : (0 ≤ x → π 272 n = σ (σ 10 x) 11) ∧ (x < 0 → π 272 n = 1000000)) (h2b : x < 0 → x = -1) (h3 : π 273 n = x) (ho : ∀ j, j ≠ n → π 272 j = τ 272 j ∧ π 273 j = τ 273 j) (h : zp_PS σ τ t n) : zp_PS σ π t (n + 1) := fun D hD => by
  have n5 := hD.2.2.2.2.2.1.1
  have nd := zp_W_nd hD hn (by omega)
  have k := nd.2.1.mp hk
  have w := nd.2.2.1 (by omega)
  have g22 := hD.2.2.2.2.1 n
  refine zp_PS_o hn ho h hD ?_
  have z := hl D n (fun i => (zp_pr D (zx_lm D (D 0 3)) n i).1) (zx_lm D (D 0 3)) hD.1 k w.symm (by omega) (by omega)
  rw [hD.1.1] at z
  rw [zp_pr_w hn (by omega), h3]
  show zp_e (π 272 n) (zp_b (fun o => zp_c D (fun i => (zp_pr D (zx_lm D (D 0 3)) n i).1) (zx_lm D (D 0 3)) o n) (D 0 3)).1 ∧ x = (zp_b (fun o => zp_c D (fun i => (zp_pr D (zx_lm D (D 0 3)) n i).1) (zx_lm D (D 0 3)) o n) (D 0 3)).2
  by_cases c : x < 0
  · rw [z.1 c, h2.2 c]
    exact ⟨⟨fun _ => rfl, fun q => absurd q (show ¬ (0 : Int) ≤ -1 by omega)⟩, h2b c⟩
  · have t7 := hD.1.2 x (by omega) hx
    rw [z.2 (by omega), h2.1 (by omega), t7.2.1]
    have g7 := hD.2.2.1 x
    exact ⟨⟨fun q => absurd q (show ¬ D 7 x < 0 by omega), fun _ => ⟨rfl, show D 7 x < 1000000 by omega⟩⟩, rfl⟩
theorem zp_PS_s (hn : 0 ≤ n) (h1 : n < σ t 5) (hk : σ (t + 1) n ≠ 1 ∧ σ (t + 1) n ≠ 2) {mt mv : Int} (hW : ∀ D, zp_W σ D t → zp_W τ D t) (e3 : τ 3 3 = σ 3 3) (hmv : zp_LM σ mv (σ 3 3)) (hmb : mv < σ 3 3) (hm : (mv < 0 → mt = 1000000) ∧ (0 ≤ mv → mt = σ (σ 10 mv) 11)) (h2 : π 272 n = (zp_f (zp_cs τ t n mt) (τ 3 3)).1) (h3 : π 273 n = (zp_f (zp_cs τ t n mt) (τ 3 3)).2) (ho : ∀ j, j ≠ n → π 272 j = τ 272 j ∧ π 273 j = τ 273 j) (h : zp_PS σ τ t n) : zp_PS σ π t (n + 1) := fun D hD => by
  have n5 := hD.2.2.2.2.2.1.1
  have nd := zp_W_nd hD hn (by omega)
  have k : D 21 n = 2 := by
    have a := hD.2.2.2.1 n
    have b1 := nd.1
    have b2 := nd.2.1
    omega
  obtain ⟨s1, s2, s3, s4⟩ := zp_W_tr hD hn (by omega) k
  have emv : mv = zx_lm D (D 0 3) := by
    rw [← hD.1.1]
    exact hmv D hD.1
  have hm' : (zx_lm D (D 0 3) < 0 → mt = 1000000) ∧ (0 ≤ zx_lm D (D 0 3) → mt = D 7 (zx_lm D (D 0 3))) := by
    rw [← emv]
    exact ⟨hm.1, fun q => by rw [hm.2 q]; exact (hD.1.2 mv q hmb).2.1⟩
  refine zp_PS_o hn ho h hD ?_
  rw [zp_pr_w hn (by omega), h2, h3, e3, hD.1.1]
  exact zp_f_b (d := zp_k D (zx_lm D (D 0 3)) n) (fun o o0 o1 => zp_cs_e (p := fun i => (zp_pr D (zx_lm D (D 0 3)) n i).1) (hW D hD) o0 (by rw [e3, hD.1.1]; exact o1) hn (by omega) k (h D hD _ s1 s2).1 (h D hD _ s3 s4).1 (zp_W_bd hD _ (by omega) s1 s2) (zp_W_bd hD _ (by omega) s3 s4) hm')
end ZPS
theorem zp_q_r {σ τ D : zq_S} {t mt mv r : Int} (hD : zp_W σ D t) (hP : zp_PS σ τ t (σ t 5)) (hmv : zp_LM σ mv (σ 3 3)) (hmb : mv < σ 3 3) (hm : (mv < 0 → mt = 1000000) ∧ (0 ≤ mv → mt = σ (σ 10 mv) 11)) (hr : (σ (t + 1) (σ t 5 - 1) = 1 → (mt < 1000000 → r = mt) ∧ (¬ mt < 1000000 → r = -4)) ∧ (σ (t + 1) (σ t 5 - 1) ≠ 1 → (τ 272 (σ t 5 - 1) < 1000000 → r = τ 272 (σ t 5 - 1)) ∧ (¬ τ 272 (σ t 5 - 1) < 1000000 → r = -4))) : r = if zp_q D < 0 then -4 else zp_q D := by
  obtain ⟨n5, n51, n52⟩ := hD.2.2.2.2.2.1
  rw [n5] at hr hP
  have nd := zp_W_nd hD (i := D 0 37 - 1) (by omega) (by omega)
  have emv : mv = zx_lm D (D 0 3) := by
    rw [← hD.1.1]
    exact hmv D hD.1
  unfold zp_q
  by_cases c : D 21 (D 0 37 - 1) = 0
  · rw [if_pos c, ← emv]
    have a := hr.1 (nd.1.mpr c)
    by_cases c2 : mv < 0
    · rw [if_pos c2, if_pos (show (-1 : Int) < 0 by omega)]
      exact a.2 (by rw [hm.1 c2]; omega)
    · have t7 := (hD.1.2 mv (by omega) hmb).2.1
      have g7 := hD.2.2.1 mv
      have e := hm.2 (by omega)
      rw [if_neg c2, if_neg (show ¬ D 7 mv < 0 by omega), ← t7, ← e]
      exact a.1 (by omega)
  · rw [if_neg c]
    have a := hr.2 (fun z => c (nd.1.mp z))
    have e := (hP D hD (D 0 37 - 1) (by omega) (by omega)).1
    by_cases c2 : (zp_pr D (zx_lm D (D 0 3)) (D 0 37) (D 0 37 - 1)).1 < 0
    · rw [if_pos c2]
      have z := e.1 c2
      exact a.2 (by omega)
    · rw [if_neg c2]
      have z := e.2 (by omega)
      rw [← z.1]
      exact a.1 (by omega)
/-- ticks and widths in bounds; sides ahead of their sign -/
def zp_P2 (σ : zq_S) : Prop := ∀ o, 0 ≤ o → o < σ 3 3 → 0 ≤ σ (σ 10 o) 11 ∧ σ (σ 10 o) 11 ≤ 1000 ∧ zt_bc (σ (σ 10 o + 1) 3) ≤ 12
def zp_SD (σ : zq_S) (t : Int) : Prop := ∀ i, 0 ≤ i → i < σ t 5 → σ (t + 1) i ≠ 1 → σ (t + 1) i ≠ 2 → σ (t + 3) i < i ∧ σ (t + 4) i < i
section ZPF
variable {σ τ : zq_S}
theorem zp_P2_fr (hf : zc_Fr [(272, -1), (273, -1)] σ τ) (hT : zc_T σ) (h : zp_P2 σ) : zp_P2 τ := fun o o0 o1 => by
  have z3 := zc_g3_3 hT zc_s3
  rw [hf 3 3 (zc_out_at zc_s3 rfl)] at o1
  have ka := zc_ga10 hT zc_s10 o o0 (by omega)
  rw [hf 10 o (zc_out_ar zc_s10 rfl), hf _ 11 (zc_out_at ka rfl), hf _ 3 (zc_out_ar (zc_p4_1 ka) rfl)]
  exact h o o0 o1
theorem zp_T_fr {D : zq_S} (hf : zc_Fr [(272, -1), (273, -1)] σ τ) (hT : zc_T σ) (h : zp_T σ D) : zp_T τ D := by
  have z3 := zc_g3_3 hT zc_s3
  have e3 := hf 3 3 (zc_out_at zc_s3 rfl)
  refine ⟨by rw [e3]; exact h.1, fun o o0 o1 => ?_⟩
  rw [e3] at o1
  have ka := zc_ga10 hT zc_s10 o o0 (by omega)
  rw [hf 10 o (zc_out_ar zc_s10 rfl), hf _ 11 (zc_out_at ka rfl), hf _ 14 (zc_out_at ka rfl), hf _ 0 (zc_out_ar (zc_p4_4 ka) rfl), hf _ 3 (zc_out_ar (zc_p4_1 ka) rfl)]
  exact h.2 o o0 o1
theorem zp_W_fr {D : zq_S} {t : Int} (hf : zc_Fr [(272, -1), (273, -1)] σ τ) (hT : zc_T σ) (kt : zc_kd t = 256) (h : zp_W σ D t) : zp_W τ D t := by
  have z3 := zc_g3_3 hT zc_s3
  have e3 := hf 3 3 (zc_out_at zc_s3 rfl)
  obtain ⟨h1, h2, h3, h4, h5, h6, h7, h8⟩ := h
  refine ⟨zp_T_fr hf hT h1, h2, h3, h4, h5, ⟨by rw [hf t 5 (zc_out_at kt rfl)]; exact h6.1, h6.2⟩, fun o o0 o1 => ?_, fun i i0 i1 => ?_⟩
  · rw [e3] at o1
    have ka := zc_ga10 hT zc_s10 o o0 (by omega)
    rw [hf 10 o (zc_out_ar zc_s10 rfl), hf _ 3 (zc_out_ar (zc_p4_1 ka) rfl)]
    exact h7 o o0 o1
  · have q := h8 i i0 i1
    unfold zs_nd at q ⊢
    rw [hf (t + 1) i (zc_out_ar (zc_p256_1 kt) rfl), hf (t + 2) i (zc_out_ar (zc_p256_2 kt) rfl), hf (t + 3) i (zc_out_ar (zc_p256_3 kt) rfl), hf (t + 4) i (zc_out_ar (zc_p256_4 kt) rfl)]
    exact q
end ZPF
/-- the sum that is read, if one is -/
def zp_V (σ D : zq_S) : Prop := σ 255 3 = D 0 36 ∧ (D 0 36 = 1 → zp_W σ D (σ 255 1))

